noncomputable section
/-! ===== GROUPS, 43: who belongs where ===== -/
def b2i (b : Bool) : Int := bif b then 1 else 0
def bitN (x : Int32) (k : Nat) : Bool := x.toBitVec.getLsbD k
theorem bit_k {o : Int32} {n : Nat} (hn : o.toInt = (n : Int)) (h : n < 16) : o = Int32.ofNat n := by
  have key : ∀ n, n < 16 → (Int32.ofNat n).toInt = (n : Int) := by decide +kernel
  exact Int32.toInt_inj.mp (hn.trans (key n h).symm)
theorem bit_or {x y : Int32} {k : Nat} : bitN (x ||| y) k = (bitN x k || bitN y k) := by
  show (x.toBitVec ||| y.toBitVec).getLsbD k = _
  rw [BitVec.getLsbD_or]; rfl
theorem bit_and {x y : Int32} {k : Nat} : bitN (x &&& y) k = (bitN x k && bitN y k) := by
  show (x.toBitVec &&& y.toBitVec).getLsbD k = _
  rw [BitVec.getLsbD_and]; rfl
theorem bit_xor {x y : Int32} {k : Nat} : bitN (x ^^^ y) k = (bitN x k ^^ bitN y k) := by
  show (x.toBitVec ^^^ y.toBitVec).getLsbD k = _
  rw [BitVec.getLsbD_xor]; rfl
theorem bit_one : ∀ n, n < 16 → ∀ m, m < 16 → bitN ((1 : Int32) <<< (Int32.ofNat n &&& 31)) m = decide (m = n) := by decide +kernel
theorem bit_m1 : ∀ m, m < 16 → bitN (-1 : Int32) m = true := by decide +kernel
theorem bit_sm : ∀ n, n < 16 → ((Int32.ofNat n &&& 31).toBitVec.smod 32#32).toNat = n := by decide +kernel
theorem and_one {y : BitVec 32} : (y &&& 1#32).toInt = b2i (y.getLsbD 0) := by
  have e : y &&& 1#32 = bif y.getLsbD 0 then 1#32 else 0#32 := by
    apply BitVec.eq_of_getLsbD_eq
    intro i hi
    rw [BitVec.getLsbD_and, BitVec.getLsbD_one]
    by_cases h : i = 0
    · subst h
      cases y.getLsbD 0 <;> rfl
    · have : decide (i = 0) = false := decide_eq_false h
      rw [this, Bool.and_false, Bool.and_false]
      cases y.getLsbD 0
      · exact BitVec.getLsbD_zero.symm
      · show false = (1#32).getLsbD i
        rw [BitVec.getLsbD_one, this, Bool.and_false]
  rw [e]
  cases y.getLsbD 0 <;> rfl
theorem bit_rd {x o : Int32} {n : Nat} (hn : o.toInt = (n : Int)) (h : n < 16) : (Bo.i .iand (Bo.i .ishr x o) 1).toInt = b2i (bitN x n) := by
  rw [bit_k hn h]
  show (x.toBitVec.sshiftRight ((Int32.ofNat n &&& 31).toBitVec.smod 32#32).toNat &&& 1#32).toInt = _
  rw [bit_sm n h, and_one, BitVec.getLsbD_sshiftRight]
  have e : n + 0 < 32 := by omega
  rw [if_pos e]
  rfl
theorem bit_st {x o : Int32} {n m : Nat} (hn : o.toInt = (n : Int)) (h : n < 16) (hm : m < 16) : bitN (Bo.i .ior x (Bo.i .ishl 1 o)) m = (bitN x m || decide (m = n)) := by
  rw [bit_k hn h]
  show bitN (x ||| (1 : Int32) <<< (Int32.ofNat n &&& 31)) m = _
  rw [bit_or, bit_one n h m hm]
theorem bit_cl {x o : Int32} {n m : Nat} (hn : o.toInt = (n : Int)) (h : n < 16) (hm : m < 16) : bitN (Bo.i .iand x (Bo.i .ixor (Bo.i .ishl 1 o) (-1))) m = (bitN x m && !(decide (m = n))) := by
  rw [bit_k hn h]
  show bitN (x &&& ((1 : Int32) <<< (Int32.ofNat n &&& 31) ^^^ (-1))) m = _
  rw [bit_and, bit_xor, bit_one n h m hm, bit_m1 m hm, Bool.xor_true]
def R840 (t o b : Int) : Prop := ∃ x : Int32, x.toInt = t ∧ ∀ n : Nat, o = (n : Int) → n < 16 → b = b2i (bitN x n)
def R843 (t o w c : Int) : Prop := ∃ x y : Int32, x.toInt = t ∧ y.toInt = w ∧ ∀ n : Nat, o = (n : Int) → n < 16 → ∀ m, m < 16 → b2i (bitN y m) = if m = n then c else b2i (bitN x m)
theorem R840.at {t o b : Int} (h : R840 t o b) {x : Int32} {n : Nat} (hx : x.toInt = t) (hn : o = (n : Int)) (h6 : n < 16) : b = b2i (bitN x n) := by
  obtain ⟨y, e, q⟩ := h
  have : y = x := Int32.toInt_inj.mp (e.trans hx.symm)
  subst this
  exact q n hn h6
theorem R843.at {t o w c : Int} (h : R843 t o w c) {x y : Int32} {n : Nat} (hx : x.toInt = t) (hy : y.toInt = w) (hn : o = (n : Int)) (h6 : n < 16) : ∀ m, m < 16 → b2i (bitN y m) = if m = n then c else b2i (bitN x m) := by
  obtain ⟨x', y', e1, e2, q⟩ := h
  have h1 : x' = x := Int32.toInt_inj.mp (e1.trans hx.symm)
  have h2 : y' = y := Int32.toInt_inj.mp (e2.trans hy.symm)
  subst h1
  subst h2
  exact q n hn h6
/-! masks -/
def R847 (x y v : Int) : Prop := ∃ X Y : Int32, X.toInt = x ∧ Y.toInt = y ∧ (X ||| Y).toInt = v
def bt (w : Int) (g : Nat) : Bool := bitN (Int32.ofInt w) g
theorem bt_of {x : Int32} {g : Nat} : bt x.toInt g = bitN x g := by unfold bt; rw [Int32.ofInt_toInt]
theorem r840_bt {t o b : Int} (h : R840 t o b) {n : Nat} (ho : o = (n : Int)) (hn : n < 16) : b = b2i (bt t n) := by
  obtain ⟨x, e, q⟩ := h
  rw [← e, bt_of]
  exact q n ho hn
theorem r843_bt {t o w c : Int} (h : R843 t o w c) {n : Nat} (ho : o = (n : Int)) (hn : n < 16) : ∀ m, m < 16 → b2i (bt w m) = if m = n then c else b2i (bt t m) := by
  obtain ⟨x, y, e1, e2, q⟩ := h
  rw [← e1, ← e2]
  intro m hm
  rw [bt_of, bt_of]
  exact q n ho hn m hm
theorem b2i_1 {b : Bool} (h : 1 ≤ b2i b) : b = true := by
  cases b with
  | true => rfl
  | false => exact absurd h (by decide)
theorem b2i_0 {b : Bool} (h : b2i b ≤ 0) : b = false := by
  cases b with
  | false => rfl
  | true => exact absurd h (by decide)
theorem b2i_t {b : Bool} (h : b = true) : b2i b = 1 := by rw [h]; rfl
theorem b2i_in {b : Bool} : b2i b = 0 ∨ b2i b = 1 := by cases b; exact Or.inl rfl; exact Or.inr rfl
theorem bt0 : ∀ g, g < 16 → bt 0 g = false := by decide +kernel
/-- the bits of a word below 65536 are below 16 -/
theorem hi_bit {x : Int32} (h0 : 0 ≤ x.toInt) (h1 : x.toInt ≤ 65535) {i : Nat} (hi : 16 ≤ i) : x.toBitVec.getLsbD i = false := by
  have e : x.toInt = (x.toBitVec.toNat : Int) := by
    have q : x.toInt = x.toBitVec.toInt := rfl
    rw [BitVec.toInt_eq_toNat_cond] at q
    split at q
    · exact q
    · have := x.toBitVec.isLt
      omega
  have l : x.toBitVec.toNat < 2 ^ i := Nat.lt_of_lt_of_le (by omega : x.toBitVec.toNat < 2 ^ 16) (Nat.pow_le_pow_right (by decide) hi)
  exact Nat.testBit_lt_two_pow l
theorem mask_eq {a b : Int} (a0 : 0 ≤ a) (a1 : a ≤ 65535) (b0 : 0 ≤ b) (b1 : b ≤ 65535) (h : ∀ g, g < 16 → bt a g = bt b g) : a = b := by
  have ea : (Int32.ofInt a).toInt = a := Int32.toInt_ofInt_of_le (by omega) (by omega)
  have eb : (Int32.ofInt b).toInt = b := Int32.toInt_ofInt_of_le (by omega) (by omega)
  have e : Int32.ofInt a = Int32.ofInt b := by
    apply Int32.toBitVec_inj.mp
    apply BitVec.eq_of_getLsbD_eq
    intro i hi
    by_cases q : i < 16
    · exact h i q
    · rw [hi_bit (by omega) (by omega) (by omega), hi_bit (by omega) (by omega) (by omega)]
  rw [← ea, ← eb, e]
theorem mask_ex (P : Nat → Prop) : ∃ w : Int, 0 ≤ w ∧ w ≤ 65535 ∧ ∀ g, g < 16 → (bt w g = true ↔ P g) := by
  have key : ∀ n, n ≤ 16 → ∃ x : Int32, ∀ g, g < 16 → (bitN x g = true ↔ g < n ∧ P g) := by
    intro n
    induction n with
    | zero =>
      intro _
      have z0 : ∀ m, m < 16 → bitN (0 : Int32) m = false := by decide +kernel
      exact ⟨0, fun g hg => by rw [z0 g hg]; exact ⟨fun q => (by cases q), fun q => absurd q.1 (by omega)⟩⟩
    | succ n ih =>
      intro hn
      obtain ⟨x, hx⟩ := ih (by omega)
      rcases Classical.em (P n) with hp | hp
      · refine ⟨x ||| (1 : Int32) <<< (Int32.ofNat n &&& 31), fun g hg => ?_⟩
        rw [bit_or, bit_one n (by omega) g hg, Bool.or_eq_true, hx g hg, decide_eq_true_iff]
        constructor
        · rintro (⟨q1, q2⟩ | q)
          · exact ⟨by omega, q2⟩
          · rw [q]; exact ⟨by omega, hp⟩
        · rintro ⟨q1, q2⟩
          by_cases e : g = n
          · exact Or.inr e
          · exact Or.inl ⟨by omega, q2⟩
      · refine ⟨x, fun g hg => ?_⟩
        rw [hx g hg]
        constructor
        · rintro ⟨q1, q2⟩; exact ⟨by omega, q2⟩
        · rintro ⟨q1, q2⟩
          refine ⟨?_, q2⟩
          by_cases e : g = n
          · rw [e] at q2; exact absurd q2 hp
          · omega
  obtain ⟨x, hx⟩ := key 16 (by decide)
  have m1 : ∀ m, m < 16 → bitN (65535 : Int32) m = true := by decide +kernel
  obtain ⟨r1, r2⟩ := and_between (x := x) (y := 65535) (by decide)
  refine ⟨(x &&& 65535).toInt, r1, r2, fun g hg => ?_⟩
  rw [bt_of, bit_and, m1 g hg, Bool.and_true, hx g hg]
  exact ⟨fun q => q.2, fun q => ⟨hg, q⟩⟩
/-- how many bits -/
def cnB (w : Int) : Nat := (List.range 16).countP fun g => bt w g
theorem cnB_le {w : Int} : cnB w ≤ 16 := by
  have := List.countP_le_length (p := fun g => bt w g) (l := List.range 16)
  rw [List.length_range] at this
  exact this
theorem cp_mono {p q : Nat → Bool} : ∀ {l : List Nat}, (∀ x ∈ l, p x = true → q x = true) → l.countP p ≤ l.countP q
  | [], _ => Nat.le_refl _
  | x :: r, h => by
    have ih := cp_mono (l := r) (fun y hy => h y (List.mem_cons_of_mem _ hy))
    rw [List.countP_cons, List.countP_cons]
    have hx := h x (List.mem_cons_self ..)
    cases hp : p x with
    | false => simp only [Bool.false_eq_true, if_false]; omega
    | true => rw [hx hp]; omega
theorem cp_lt {p q : Nat → Bool} : ∀ {l : List Nat}, (∀ x ∈ l, p x = true → q x = true) → (∃ x ∈ l, q x = true ∧ p x = false) → l.countP p < l.countP q
  | [], _, h => by obtain ⟨x, hx, _⟩ := h; cases hx
  | x :: r, h, he => by
    have m := cp_mono (l := r) (fun y hy => h y (List.mem_cons_of_mem _ hy))
    rw [List.countP_cons, List.countP_cons]
    have hx := h x (List.mem_cons_self ..)
    obtain ⟨y, hy, h1, h2⟩ := he
    rcases List.mem_cons.mp hy with rfl | hy
    · rw [h1, h2]; simp only [Bool.false_eq_true, if_false, if_true]; omega
    · have ih := cp_lt (l := r) (fun y hy => h y (List.mem_cons_of_mem _ hy)) ⟨y, hy, h1, h2⟩
      cases hp : p x with
      | false => simp only [Bool.false_eq_true, if_false]; omega
      | true => rw [hx hp]; omega
theorem cnB_mono {a b : Int} (h : ∀ g, g < 16 → bt a g = true → bt b g = true) : cnB a ≤ cnB b := cp_mono (fun x hx => h x (List.mem_range.mp hx))
theorem cnB_lt {a b : Int} (a0 : 0 ≤ a) (a1 : a ≤ 65535) (b0 : 0 ≤ b) (b1 : b ≤ 65535) (h : ∀ g, g < 16 → bt a g = true → bt b g = true) (hne : a ≠ b) : cnB a < cnB b := by
  refine cp_lt (fun x hx => h x (List.mem_range.mp hx)) ?_
  apply Classical.byContradiction
  intro hn
  refine hne (mask_eq a0 a1 b0 b1 (fun g hg => ?_))
  cases hb : bt b g with
  | false =>
    cases ha : bt a g with
    | false => rfl
    | true => rw [h g hg ha] at hb; cases hb
  | true =>
    cases ha : bt a g with
    | true => rfl
    | false => exact (hn ⟨g, List.mem_range.mpr hg, hb, ha⟩).elim
/-! rows -/
/-- the row j stands at t, as known at k (t is -1: it isn't taken back) -/
def Stn (m : Mt) (j : Nat) (t k : Int) : Prop := (t = -1 ∧ m 119 j = -4) ∨ (t ≠ -1 ∧ m 116 j ≤ t ∧ t < m 117 j ∧ m 118 j ≤ k ∧ (m 119 j = -4 ∨ k < m 119 j))
def S0 (m : Mt) (q t k : Int) (g : Nat) : Prop := (q < 100 ∧ ∃ j : Nat, (j : Int) < m 110 8 ∧ m 114 j = q ∧ Stn m j t k ∧ m 115 j = (g : Int)) ∨ (100 ≤ q ∧ q = 100 + (g : Int))
def Rch (m : Mt) (q t k : Int) (g : Nat) : Prop := ∀ P : Nat → Prop, (∀ g, S0 m q t k g → P g) → (∀ j : Nat, (j : Int) < m 110 8 → ∀ h : Nat, m 114 j = 100 + (h : Int) → P h → Stn m j t k → ∀ g : Nat, m 115 j = (g : Int) → P g) → P g
theorem Rch.s0 {m : Mt} {q t k : Int} {g : Nat} (h : S0 m q t k g) : Rch m q t k g := fun P h1 _ => h1 g h
theorem Rch.go {m : Mt} {q t k : Int} {j h g : Nat} (hj : (j : Int) < m 110 8) (h1 : m 114 j = 100 + (h : Int)) (h2 : Rch m q t k h) (h3 : Stn m j t k) (h4 : m 115 j = (g : Int)) : Rch m q t k g := fun P p1 p2 => p2 j hj h h1 (h2 P p1 p2) h3 g h4
abbrev Bp : Type := Nat → Prop
def InB9 (B : Bp) (x : Int) : Prop := ∃ g : Nat, x = (g : Int) ∧ g < 16 ∧ B g
def SndP (m : Mt) (q t k : Int) (B : Bp) : Prop := ∀ g, g < 16 → B g → Rch m q t k g
def StrP (m : Mt) (q t k : Int) (B : Bp) (r : Int) : Prop := (q < 100 → ∀ j : Nat, (j : Int) < r → (j : Int) < m 110 8 → m 114 j = q → Stn m j t k → InB9 B (m 115 j)) ∧ (100 ≤ q → InB9 B (q - 100))
def CloP (m : Mt) (t k : Int) (A B : Bp) (r : Int) : Prop := ∀ j : Nat, (j : Int) < r → (j : Int) < m 110 8 → ∀ h : Nat, m 114 j = 100 + (h : Int) → h < 16 → A h → Stn m j t k → InB9 B (m 115 j)
theorem InB9.up {B B' : Bp} (h : ∀ g, g < 16 → B g → B' g) {x : Int} (q : InB9 B x) : InB9 B' x := by
  obtain ⟨g, h1, h2, h3⟩ := q
  exact ⟨g, h1, h2, h g h2 h3⟩
theorem StrP.up {m : Mt} {q t k r : Int} {B B' : Bp} (h : ∀ g, g < 16 → B g → B' g) (s : StrP m q t k B r) : StrP m q t k B' r := ⟨fun a j b c d e => (s.1 a j b c d e).up h, fun a => (s.2 a).up h⟩
theorem CloP.up {m : Mt} {t k r : Int} {A B B' : Bp} (h : ∀ g, g < 16 → B g → B' g) (s : CloP m t k A B r) : CloP m t k A B' r := fun j a b g c d e f => (s j a b g c d e f).up h
/-- all that is to be reached is there -/
theorem reach_all {m : Mt} {q t k r s : Int} {B : Bp} (h1 : StrP m q t k B r) (hr : q < 100 → m 110 8 ≤ r) (h2 : CloP m t k B B s) (hs : m 110 8 ≤ s) {g : Nat} (hg : Rch m q t k g) : g < 16 ∧ B g := by
  refine hg (fun g => g < 16 ∧ B g) (fun g h => ?_) (fun j hj h e1 e2 e3 g e4 => ?_)
  · rcases h with ⟨a, j, b1, b2, b3, b4⟩ | ⟨a, b⟩
    · obtain ⟨g', c1, c2, c3⟩ := h1.1 a j (Int.lt_of_lt_of_le b1 (hr a)) b1 b2 b3
      have : g' = g := by omega
      rw [← this]; exact ⟨c2, c3⟩
    · obtain ⟨g', c1, c2, c3⟩ := h1.2 a
      have : g' = g := by omega
      rw [← this]; exact ⟨c2, c3⟩
  · obtain ⟨g', c1, c2, c3⟩ := h2 j (Int.lt_of_lt_of_le hj hs) hj h e1 e2.1 e2.2 e3
    have : g' = g := by omega
    rw [← this]; exact ⟨c2, c3⟩
def Msk (w : Int) : Prop := 0 ≤ w ∧ w ≤ 65535
def BtP (w : Int) : Bp := fun g => bt w g = true
def RhP (m : Mt) : Bp := fun g => m 120 g = 1
def Exa (m : Mt) (q t k w : Int) : Prop := Msk w ∧ ∀ g, g < 16 → (bt w g = true ↔ Rch m q t k g)
/-! what holds: columns; bits; the class's bits; the reference's row; the groups of all -/
def ColS (t kM c : Nat) (τ : Tf) (m : Mt) : Prop := (τ t = none → ∀ i : Nat, i < 201 → m 6 (6 * i + c) = m kM i) ∧ ∀ z, τ t = some z → ∃ j : Nat, z = (j : Int) ∧ j < 201 ∧ (∀ i : Nat, i < 201 → i ≠ j → m 6 (6 * i + c) = m kM i) ∧ (∀ y, τ (t + 1) = some y → m 6 (6 * j + c) = y) ∧ ∀ y, τ (t + 2) = some y → m kM j = y
/-- how many rows there are -/
def gF (τ : Tf) (m : Mt) : Prop := (τ 930 = none → m 5 2 = m 110 8) ∧ ∀ y, τ 930 = some y → m 5 2 = y
def gL (τ : Tf) (m : Mt) : Prop := ∀ l, τ 980 = some l → ∃ j : Nat, l = (j : Int) ∧ (∀ y, τ 981 = some y → m 157 j = y) ∧ (∀ y, τ 982 = some y → m 158 j = y) ∧ ∀ y, τ 983 = some y → m 159 j = y
def gA (τ : Tf) (m : Mt) : Prop := (ColS 900 114 0 τ m ∧ ColS 904 115 1 τ m ∧ ColS 908 116 2 τ m) ∧ (ColS 912 117 3 τ m ∧ ColS 916 118 4 τ m ∧ ColS 920 119 5 τ m) ∧ (∀ g : Nat, g < 16 → m 120 g = 0 ∨ m 120 g = 1) ∧ gF τ m ∧ gL τ m
def gB (τ : Tf) : Prop := (∀ t o b, τ 840 = some t → τ 841 = some o → τ 842 = some b → R840 t o b) ∧ (∀ t o w c, τ 843 = some t → τ 844 = some o → τ 845 = some w → τ 846 = some c → R843 t o w c) ∧ (∀ x y v, τ 847 = some x → τ 848 = some y → τ 849 = some v → R847 x y v) ∧ ∀ t o b, τ 985 = some t → τ 986 = some o → τ 987 = some b → R840 t o b
def gC (τ : Tf) (m : Mt) : Prop :=
  (∀ q t k w, τ 950 = some q → τ 951 = some t → τ 952 = some k → τ 953 = some w → Exa m q t k w) ∧
  (∀ q t k b, τ 950 = some q → τ 951 = some t → τ 952 = some k → τ 954 = some b → (Msk b ∧ SndP m q t k (BtP b)) ∧ (∀ r, τ 955 = some r → StrP m q t k (BtP b) r) ∧ (∀ c, τ 959 = some c → (∀ a, τ 956 = some a → c ≤ (cnB a : Int)) ∧ (τ 956 = none → c ≤ (cnB b : Int))) ∧ ∀ a, τ 956 = some a → (Msk a ∧ ∀ g, g < 16 → bt a g = true → bt b g = true) ∧ ∀ r, τ 957 = some r → CloP m t k (BtP a) (BtP b) r) ∧
  ∀ t k r x, τ 951 = some t → τ 952 = some k → τ 970 = some r → τ 971 = some x → ∃ j : Nat, r = (j : Int) ∧ (x = 0 ∨ x = 1) ∧ (x = 1 ↔ Stn m j t k)
def gD (τ : Tf) (m : Mt) : Prop :=
  (∀ w, τ 958 = some w → ∀ g, g < 16 → (m 120 g = 1 ↔ bt w g = true)) ∧
  (∀ q t k r, τ 950 = some q → τ 951 = some t → τ 952 = some k → τ 960 = some r → SndP m q t k (RhP m) ∧ StrP m q t k (RhP m) r) ∧
  (∀ t k r, τ 951 = some t → τ 952 = some k → τ 961 = some r → CloP m t k (RhP m) (RhP m) r) ∧
  ∀ q z, τ 950 = some q → τ 962 = some z → ∀ g : Nat, (g : Int) < z → g < 16 → (m 120 g = 1 ↔ q = 100 + (g : Int))
def gE (τ : Tf) (m : Mt) : Prop := ∀ n t, τ 963 = some n → τ 964 = some t → ∀ p : Nat, (p : Int) < n → p < 20 → Exa m (p : Int) t t (m 40 p)
def SG (τ : Tf) (m : Mt) : Prop := (gA τ m ∧ gB τ) ∧ gC τ m ∧ gD τ m ∧ gE τ m
end
