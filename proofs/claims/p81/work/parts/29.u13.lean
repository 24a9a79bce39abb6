section
/-! ===== the greater of two, by the tables ===== -/
theorem w_max {E : xV} {Y : xY} {pc pc' m idx : Nat} {lv : List (Nat × Value)} {st : List Value} {σ : zS} {K : zKt} {x y : Int32} (hm : Yf m = Y) (hx : idx < 4096) (hl : t_lib.get (G0.own m * 4096 + idx) = some 6) (hfr : 1 ≤ Y.2.2.2.2.frames) (hlo : 40 ≤ Y.2.2.2.2.locals) (hcat : (st.map fun v => v.category).sum ≤ 8) (d : decode Y.2.1 pc = .ok (.invokestatic idx, 3) ∧ pc + 3 = pc') (kk : Wz E Y pc' lv (.int (if x < y then y else x) :: st) σ K) : Wz E Y pc lv (.int y :: .int x :: st) σ K := by
  subst hm
  obtain ⟨_, _, _, _, h6, _⟩ := G0_ok.fz m idx 6 hx hl
  obtain ⟨w1, w2, w3, w4⟩ := h6 rfl
  exact z_max w1 w2 w3 w4 hfr hlo hcat d kk
theorem max_i (x y : Int32) : (if x < y then y else x).toInt = max x.toInt y.toInt := by
  by_cases h : x < y
  · rw [if_pos h]; have := Int32.lt_iff_toInt_lt.mp h; omega
  · rw [if_neg h]; have : ¬ x.toInt < y.toInt := fun q => h (Int32.lt_iff_toInt_lt.mpr q); omega
/-- where a skip goes on -/
noncomputable def skJ (σ : zS) (c n : Nat) (T : List EntJ) : Nat := match T with
  | t :: _ => if t.1 = (if c = 24 then 5 else 4) then max n ((σ.2 22 n).toInt - 1).toNat + 1 else n + 1
  | [] => n + 1
theorem sk_eq {σ : zS} {n : Nat} {T : List EntJ} : skJ9 (RC9 σ) n T = skJ σ (σ.1 21 n).toInt.toNat n T := by
  cases T <;> rfl
theorem sk_y {σ : zS} {c n : Nat} {T : List EntJ} {t : EntJ} {v i : Int32} {x : Int64} (hi : i.toInt = (n : Int)) (hx : x = σ.2 22 n) (hn : n < 9600) (hb : 0 ≤ (σ.2 22 n).toInt ∧ (σ.2 22 n).toInt ≤ 10000) (h : t.1 = (if c = 24 then 5 else 4)) (hv : v = if i < Int64.toInt32 x - 1 then Int64.toInt32 x - 1 else i) : v.toInt + 1 = ((skJ σ c n (t :: T) : Nat) : Int) := by
  have e1 : (1 : Int32).toInt = 1 := by decide
  have h1 : (Int64.toInt32 x).toInt = (σ.2 22 n).toInt := by
    rw [Int64.toInt_toInt32, hx, Int.bmod_eq_of_le (by omega) (by omega)]
  have h2 : (Int64.toInt32 x - 1).toInt = (σ.2 22 n).toInt - 1 := by rw [i32_sub (by rw [e1]; omega), h1, e1]
  show _ = (((if t.1 = (if c = 24 then 5 else 4) then max n ((σ.2 22 n).toInt - 1).toNat + 1 else n + 1) : Nat) : Int)
  rw [if_pos h, hv, max_i, h2, hi]
  omega
theorem sk_n {σ : zS} {c n : Nat} {T : List EntJ} {t : EntJ} {i : Int32} (hi : i.toInt = (n : Int)) (h : ¬ t.1 = (if c = 24 then 5 else 4)) : i.toInt + 1 = ((skJ σ c n (t :: T) : Nat) : Int) := by
  show _ = (((if t.1 = (if c = 24 then 5 else 4) then max n ((σ.2 22 n).toInt - 1).toNat + 1 else n + 1) : Nat) : Int)
  rw [if_neg h, hi]; rfl
/-- how truthOf ends -/
noncomputable def TrR (σ τ : zS) (r : EntJ) (o : Int32) : Prop := (r.1 = 3 ∧ o.toInt = 3 ∧ ∃ V T, CsJ σ τ V T r.2) ∨ (r.1 ≠ 3 ∧ o.toInt = tcJ r ∧ ∃ V T, CsJ σ τ V T 0)
theorem ov_3 {σ τ : zS} {x : EntJ} {W T : List EntJ} {o : Int32} (h : OutV σ τ x W T o) (ho : o.toInt = 3) : x.1 = 3 ∧ ∃ V, CsJ σ τ V T x.2 := by
  rcases h with ⟨_, q, _⟩ | ⟨_, q, _⟩ | ⟨q1, _, q2⟩
  · omega
  · omega
  · exact ⟨q1, q2⟩
theorem ov_2 {σ τ : zS} {x : EntJ} {W T : List EntJ} {o : Int32} (h : OutV σ τ x W T o) (ho : o.toInt = 2) : x.1 = 2 ∧ ∃ V, CsJ σ τ V T 0 := by
  rcases h with ⟨_, q, _⟩ | ⟨q1, _, q2⟩ | ⟨_, q, _⟩
  · omega
  · exact ⟨q1, q2⟩
  · omega
theorem ov_4 {σ τ : zS} {x : EntJ} {W T : List EntJ} {o : Int32} (h : OutV σ τ x W T o) (h3 : o.toInt ≠ 3) (h2 : o.toInt ≠ 2) : x.1 ≤ 1 ∧ CsJ σ τ (x :: W) T 0 := by
  rcases h with ⟨q1, _, q2⟩ | ⟨_, q, _⟩ | ⟨_, q, _⟩
  · exact ⟨q1, q2⟩
  · omega
  · omega
theorem ot_3 {σ τ : zS} {x : EntJ} {W T : List EntJ} {o : Int32} (h : OutT σ τ x W T o) (ho : o.toInt = 3) : x.1 = 3 ∧ ∃ V, CsJ σ τ V T x.2 := by
  rcases h with ⟨_, q, _⟩ | ⟨_, q, _⟩ | ⟨q1, _, q2⟩
  · omega
  · omega
  · exact ⟨q1, q2⟩
theorem ot_2 {σ τ : zS} {x : EntJ} {W T : List EntJ} {o : Int32} (h : OutT σ τ x W T o) (ho : o.toInt = 2) : x.1 = 2 ∧ ∃ V, CsJ σ τ V T 0 := by
  rcases h with ⟨_, q, _⟩ | ⟨q1, _, q2⟩ | ⟨_, q, _⟩
  · omega
  · exact ⟨q1, q2⟩
  · omega
theorem ot_4 {σ τ : zS} {x : EntJ} {W T : List EntJ} {o : Int32} (h : OutT σ τ x W T o) (h3 : o.toInt ≠ 3) (h2 : o.toInt ≠ 2) : 4 ≤ x.1 ∧ CsJ σ τ W (x :: T) 0 := by
  rcases h with ⟨q1, _, q2⟩ | ⟨_, q, _⟩ | ⟨_, q, _⟩
  · exact ⟨q1, q2⟩
  · omega
  · omega
theorem cm_no {σ : zS} {i : Nat} (h : 0 ≤ (σ.1 21 i).toInt) (h2 : ¬ (13 ≤ (σ.1 21 i).toInt ∧ (σ.1 21 i).toInt ≤ 19)) : isCm ((RC9 σ) i).1 = false := by
  cases hq : isCm ((RC9 σ) i).1 with
  | false => rfl
  | true => exact absurd ((cm_iff h).mp hq) h2

end
