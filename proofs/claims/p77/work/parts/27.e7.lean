noncomputable section
/-! ===== ENGINE 5: an instruction by symbols is right ===== -/
/-- nothing else is written -/
def Fr (Wp : Nat → Nat → Prop) (σ σ' : zS) : Prop := ∀ k j, ¬ Wp k j → σ'.1 k j = σ.1 k j ∧ σ'.2 k j = σ.2 k j
theorem Fr.rf {Wp : Nat → Nat → Prop} {σ : zS} : Fr Wp σ σ := fun _ _ _ => ⟨rfl, rfl⟩
theorem Fr.tr {Wp : Nat → Nat → Prop} {a b c : zS} (h : Fr Wp a b) (h' : Fr Wp b c) : Fr Wp a c := fun k j q => ⟨(h' k j q).1.trans (h k j q).1, (h' k j q).2.trans (h k j q).2⟩
section E5
variable {E : xV} {Y : Nat → xY} {G : Gl} {Wp : Nat → Nat → Prop} {J : Jt} {m pc len : Nat} {ix : Ix} {s : Sy} {ρ : List Int} {σ : zS} {lv : List (Nat × AV)} {st : List AV} {l : List (Nat × Value)} {v : List Value} {L : List Su} {K : zKt}
/-- what is behind: each state by symbols leads on -/
def Kk (E : xV) (Y : Nat → xY) (Wp : Nat → Nat → Prop) (J : Jt) (m : Nat) (ρ : List Int) (σ : zS) (K : zKt) (L : List Su) : Prop := ∀ u ∈ L, ∀ (ρ' : List Int) (σ' : zS) (l' : List (Nat × Value)) (v' : List Value), Pre ρ ρ' → Ok J u.1 ρ' σ' → Fr Wp σ σ' → Rl ρ' u.2.2.1 l' → Rs ρ' u.2.2.2 v' → Wz E (Y m) u.2.1 l' v' σ' K
theorem Kk.one {s' : Sy} {n : Nat} {lv' : List (Nat × AV)} {st' : List AV} (k : Kk E Y Wp J m ρ σ K [(s', (n, (lv', st')))]) {ρ' : List Int} {σ' : zS} {l' : List (Nat × Value)} {v' : List Value} (h1 : Pre ρ ρ') (h2 : Ok J s' ρ' σ') (h3 : Fr Wp σ σ') (h4 : Rl ρ' lv' l') (h5 : Rs ρ' st' v') : Wz E (Y m) n l' v' σ' K := k _ (List.mem_cons_self ..) ρ' σ' l' v' h1 h2 h3 h4 h5
theorem nz_ok {d : Dom} (h : nz d = true) (h0 : inD 0 d) : False := by
  unfold nz at h
  have := dand_in h0 (b := [(0, 0)]) ⟨_, List.mem_cons_self .., Int.le_refl _, Int.le_refl _⟩
  split at h
  · rename_i e
    rw [e] at this
    exact inD_nil this
  · cases h
theorem tgt_ok {t : Nat} {off : Int} (h : tgt pc off = some t) : (pc : Int) + off = (t : Int) := by
  unfold tgt at h
  cases hc : (pc : Int) + off with
  | ofNat n => rw [hc] at h; cases Option.some.inj h; rfl
  | negSucc n => rw [hc] at h; cases h
theorem ofInt32 {n : Int} (h : -2147483648 ≤ n ∧ n ≤ 2147483647) : (Int32.ofInt n).toInt = n := by
  rw [Int32.toInt_ofInt, bm32 h]
theorem ofInt8 {n : Int} (h : -128 ≤ n ∧ n ≤ 127) : ((Int8.ofInt n).toInt32).toInt = n := by
  have e : (Int8.size : Int) = 256 := rfl
  rw [Int8.toInt_toInt32, Int8.toInt_ofInt, Int.bmod_eq_of_le_mul_two] <;> omega
theorem ofInt16 {n : Int} (h : -32768 ≤ n ∧ n ≤ 32767) : ((Int16.ofInt n).toInt32).toInt = n := by
  have e : (Int16.size : Int) = 65536 := rfl
  rw [Int16.toInt_toInt32, Int16.toInt_ofInt, Int.bmod_eq_of_le_mul_two] <;> omega
theorem and_ile {a b c d : Int} (h : (ile a b && ile c d) = true) : a ≤ b ∧ c ≤ d := by
  simp only [Bool.and_eq_true, ile_iff] at h
  exact h
theorem Fr.i {k j : Nat} {x : Int32} (h : Wp k j) : Fr Wp σ (zI σ k j x) := by
  intro k' j' hw
  refine ⟨zI_ne ?_, rfl⟩
  rintro ⟨rfl, rfl⟩
  exact hw h
theorem Fr.j {k j : Nat} {x : Int64} (h : Wp k j) : Fr Wp σ (zJ σ k j x) := by
  intro k' j' hw
  refine ⟨rfl, zJ_ne ?_⟩
  rintro ⟨rfl, rfl⟩
  exact hw h
/-- a comparison -/
theorem br_ok {c : Cm} {a b : AV} {t e : Nat} {x y : Int} (h : Ok J s ρ σ) (ha : ev ρ a = some x) (hb : ev ρ b = some y) (hx : inD x (dom s a)) (hy : inD y (dom s b)) (hl : Rl ρ lv l) (hs : Rs ρ st v) (k : Kk E Y Wp J m ρ σ K (br s c a b t e lv st)) : (c.ok x y → Wz E (Y m) t l v σ K) ∧ (¬ c.ok x y → Wz E (Y m) e l v σ K) := by
  refine ⟨fun hc => ?_, fun hc => ?_⟩
  · obtain ⟨s', h1, h2⟩ := Sy.cut_ok h ha hb hx hy hc
    refine k (s', (t, (lv, st))) ?_ ρ σ l v Pre.rf h2 Fr.rf hl hs
    unfold br
    rw [h1]
    exact List.mem_append_left _ (List.mem_cons_self ..)
  · obtain ⟨s', h1, h2⟩ := Sy.cut_ok h ha hb hx hy (Cm.neg_ok hc)
    refine k (s', (e, (lv, st))) ?_ ρ σ l v Pre.rf h2 Fr.rf hl hs
    unfold br
    rw [h1]
    exact List.mem_append_right _ (List.mem_cons_self ..)
theorem in_z {i : Int32} {z : Nat} (h : inD i.toInt [(0, (z : Int) - 1)]) : vp_in i z ∧ i.toNatClampNeg < z ∧ ((i.toNatClampNeg : Nat) : Int) = i.toInt := by
  have h1 := inD_one h
  have h2 : (i.toNatClampNeg : Int) = i.toInt := by
    show ((i.toInt.toNat : Nat) : Int) = i.toInt
    omega
  refine ⟨?_, by omega, h2⟩
  unfold vp_in
  rintro (q | q)
  · have := Int32.lt_iff_toInt_lt.mp q
    have e : (0 : Int32).toInt = 0 := by decide
    omega
  · omega
theorem l2i_ok (h : Ok J s ρ σ) {a : AV} {x : Int64} (ha : a.isL = true) (hx : ev ρ a = some x.toInt) : ∃ ρ', Pre ρ ρ' ∧ Ok J (s.un32 a).1 ρ' σ ∧ (s.un32 a).2.isI = true ∧ ev ρ' (s.un32 a).2 = some x.toInt32.toInt := by
  have key : -2147483648 ≤ x.toInt ∧ x.toInt ≤ 2147483647 → x.toInt32.toInt = x.toInt := fun q => by
    rw [Int64.toInt_toInt32, bm32 q]
  rcases a with ⟨_, _⟩ | _ | ⟨id, o⟩ | n | _ | ⟨_, _⟩
  · cases ha
  · cases ha
  · simp only [Sy.un32]
    cases hf : fit32 (dom s (.l id o)) || inR s (.l id o) (-2147483648) 2147483647 with
    | false => exact newI_ok h (in32 _)
    | true =>
      have hd := dom_l h (a := .l id o) rfl hx
      refine ⟨ρ, Pre.rf, h, rfl, ?_⟩
      rw [key (by
        rw [Bool.or_eq_true] at hf
        rcases hf with hf | hf
        · exact fit32_in hf hd
        · exact inR_ok h hf hx hd)]
      exact hx
  · simp only [Sy.un32]
    cases hf : fit32 [(n, n)] with
    | false => exact newI_ok h (in32 _)
    | true =>
      refine ⟨ρ, Pre.rf, h, rfl, ?_⟩
      rw [key (fit32_in hf (dom_l (a := .k n) h rfl hx))]
      exact hx
  · cases ha
  · cases ha
theorem i2c_ok (x : Int32) : inD (j_i2c x).toInt [(0, 65535)] ∧ (0 ≤ x.toInt → x.toInt ≤ 65535 → j_i2c x = x) := by
  have e1 : ((x.toUInt32 % 65536).toNat : Int) = (j_i2c x).toInt := by
    show _ = (x.toUInt32 % 65536).toBitVec.toInt
    have hlt : (x.toUInt32 % 65536).toNat < 65536 := by
      rw [UInt32.toNat_mod]
      exact Nat.mod_lt _ (by decide)
    have hlt' : (x.toUInt32 % 65536).toBitVec.toNat < 65536 := hlt
    rw [BitVec.toInt_eq_toNat_cond, if_pos (by omega)]
    rfl
  have hlt : (x.toUInt32 % 65536).toNat < 65536 := by
    rw [UInt32.toNat_mod]
    exact Nat.mod_lt _ (by decide)
  refine ⟨⟨_, List.mem_cons_self .., by dsimp only; omega, by dsimp only; omega⟩, fun h1 h2 => ?_⟩
  apply Int32.toInt_inj.mp
  rw [← e1, UInt32.toNat_mod]
  have e2 : (x.toUInt32.toNat : Int) = x.toInt := by
    show (x.toBitVec.toNat : Int) = x.toBitVec.toInt
    have h1' : 0 ≤ x.toBitVec.toInt := h1
    rw [BitVec.toInt_eq_toNat_cond] at h1' ⊢
    split at h1' <;> omega
  have e3 : (65536 : UInt32).toNat = 65536 := by decide
  rw [e3]
  omega
theorem cmp_ok {x y : Int64} : ∀ c : Cm, (c.ok (lg_cmp x y).toInt 0 ↔ c.ok x.toInt y.toInt) := by
  have e0 : (-1 : Int32).toInt = -1 := by decide
  have e1 : (0 : Int32).toInt = 0 := by decide
  have e2 : (1 : Int32).toInt = 1 := by decide
  rcases (by omega : x.toInt < y.toInt ∨ x.toInt = y.toInt ∨ y.toInt < x.toInt) with h | h | h
  · have : lg_cmp x y = -1 := by
      unfold lg_cmp
      rw [if_neg (fun q => by have := Int64.lt_iff_toInt_lt.mp q; omega), if_neg (fun q => by rw [q] at h; omega)]
    intro c
    rw [this, e0]
    cases c <;> simp only [Cm.ok] <;> omega
  · have hxy : x = y := Int64.toInt_inj.mp h
    subst hxy
    have : lg_cmp x x = 0 := by
      unfold lg_cmp
      simp
    intro c
    rw [this, e1]
    cases c <;> simp only [Cm.ok] <;> omega
  · have : lg_cmp x y = 1 := by
      unfold lg_cmp
      exact if_pos (Int64.lt_iff_toInt_lt.mpr h)
    intro c
    rw [this, e2]
    cases c <;> simp only [Cm.ok] <;> omega
end E5
end
