noncomputable section
/-! ===== the fresh state ===== -/
noncomputable def inDb (x : Int) (d : Dom) : Bool := d.any fun p => ile p.1 x && ile x p.2
theorem inDb_ok {x : Int} {d : Dom} (h : inDb x d = true) : inD x d := by
  obtain ⟨p, h1, h2⟩ := List.any_eq_true.mp h
  rw [Bool.and_eq_true, ile_iff, ile_iff] at h2
  exact ⟨p, h1, h2.1, h2.2⟩
theorem lm_cases (k j : Nat) : (∃ q ∈ MA, q.1 = k ∧ q.2.1 = j ∧ lm MA k j = q.2.2) ∨ ((∀ q ∈ MA, ¬ (q.1 = k ∧ q.2.1 = j)) ∧ lm MA k j = 0) := by
  unfold lm
  cases h : MA.find? (fun q => q.1 == k && q.2.1 == j) with
  | none =>
    refine Or.inr ⟨fun q hq hc => ?_, rfl⟩
    have := List.find?_eq_none.mp h q hq
    simp [hc.1, hc.2] at this
  | some q =>
    have h1 := List.find?_some h
    have h2 := List.mem_of_find?_eq_some h
    rw [Bool.and_eq_true] at h1
    exact Or.inl ⟨q, h2, eq_of_beq h1.1, eq_of_beq h1.2, rfl⟩
theorem ma_ok : (MA.all fun q => inDb q.2.2.toInt (TJ.bd GG q.1 q.2.1)) = true := by decide +kernel
theorem fi_ok : (TJ.fi.all fun key d => inDb 0 d || MA.any fun q => Nat.beq (q.1 * 1024 + q.2.1) key && Nat.blt q.2.1 1024) = true := by decide +kernel
theorem ai_ok : (TJ.ai.all fun _ d => inDb 0 d) = true := by decide +kernel
theorem cofr_ok : (TJ.co.all fun _ e => e.2.all (inDb 0)) = true := by decide +kernel
theorem in0 : inD 0 T32 := ⟨_, List.mem_cons_self .., by decide, by decide⟩
theorem fresh_bd : Bd TJ GG σ00 := by
  intro k j hi
  show inD (lm MA k j).toInt (TJ.bd GG k j)
  rcases lm_cases k j with ⟨q, hq, rfl, rfl, e⟩ | ⟨hn, e⟩
  · rw [e]
    exact inDb_ok (List.all_eq_true.mp ma_ok q hq)
  · rw [e, show (0 : Int32).toInt = 0 by decide]
    unfold Jx.bd
    cases hk : GG.ka.get k with
    | none =>
      cases hf : TJ.fi.get (k * 1024 + j) with
      | none => exact in0
      | some d =>
        have h := (BT.all_P fi_ok).at hf
        rw [Bool.or_eq_true] at h
        rcases h with h | h
        · exact inDb_ok h
        · obtain ⟨q, hq, h2⟩ := List.any_eq_true.mp h
          rw [Bool.and_eq_true] at h2
          have h3 := Nat.eq_of_beq_eq_true h2.1
          have h4 : q.2.1 < 1024 := Nat.le_of_ble_eq_true h2.2
          have h5 : j < 1024 := by
            rcases hi with ⟨_, h⟩ | ⟨_, _, h, _⟩
            · exact h
            · rw [hk] at h; cases h
          exact absurd ⟨by omega, by omega⟩ (hn q hq)
    | some e =>
      cases hc : TJ.co.get k with
      | some md =>
        have h := (BT.all_P cofr_ok).at hc
        show inD 0 ((md.2[j % md.1]?).getD T32)
        cases hd : md.2[j % md.1]? with
        | none => exact in0
        | some d => exact inDb_ok (List.all_eq_true.mp h d (List.mem_of_getElem? hd))
      | none =>
        show inD 0 ((TJ.ai.get k).getD T32)
        cases ha : TJ.ai.get k with
        | none => exact in0
        | some d => exact inDb_ok ((BT.all_P ai_ok).at ha)
noncomputable def zb : List (Nat × Bool) → List Dom → Bool
  | [], [] => true
  | a :: as, d :: ds => (inDb 0 d && (a.2 || MA.all fun q => q.1 != a.1)) && zb as ds
  | _, _ => false
theorem zb_ok {j : Nat} : ∀ {as : List (Nat × Bool)} {ds : List Dom}, zb as ds = true → inB1 σ00 j as ds
  | [], [], _ => trivial
  | [], _ :: _, h => by cases h
  | _ :: _, [], h => by cases h
  | a :: as, d :: ds, h => by
    unfold zb at h
    rw [Bool.and_eq_true, Bool.and_eq_true, Bool.or_eq_true] at h
    refine ⟨?_, zb_ok h.2⟩
    have e : cell σ00 a j = 0 := by
      unfold cell
      cases h2 : a.2 with
      | true => rfl
      | false =>
        rcases h.1.2 with h3 | h3
        · rw [h2] at h3; cases h3
        · show (lm MA a.1 j).toInt = 0
          rw [lmz h3]
          rfl
    rw [e]
    exact inDb_ok h.1.1
theorem rs_ok : (TJ.rs.all fun R => R.2.2.any fun b => zb R.2.1 b) = true := by decide +kernel
theorem lz {k : Nat} (h : (MA.all fun q => q.1 != k) = true) (j : Nat) : (σ00.1 k j).toInt = 0 := by
  show (lm MA k j).toInt = 0
  rw [lmz h]
  rfl
theorem fresh_G : SL (rsT 870 999 []) (rsM RWg σ00) := by
  have no : ∀ {t : Nat} {z : Int}, rsT 870 999 [] t = some z → False := fun h => by rw [rsT_nil] at h; cases h
  have col : ∀ {k : Nat}, (MA.all fun q => q.1 != k) = true → ∀ j, rsM RWg σ00 k j = 0 := fun {k} h j => by
    show (bif RWg.any (Nat.beq k) then (σ00.1 k j).toInt else 0) = 0
    rw [lz h j]
    cases RWg.any (Nat.beq k) <;> rfl
  have c6 := col (k := 53) (by decide +kernel)
  have cs : ∀ {t kM c : Nat}, (MA.all fun q => q.1 != kM) = true → Col8 t kM c (rsT 870 999 []) (rsM RWg σ00) := fun h => ⟨fun _ i _ => (c6 _).trans (col h i).symm, fun z h => (no h).elim⟩
  have g0 : rsM RWg σ00 110 96 = 0 := by decide +kernel
  have k0 : rsM RWg σ00 110 109 = 0 := by decide +kernel
  exact ⟨⟨⟨⟨cs (by decide +kernel), cs (by decide +kernel), cs (by decide +kernel), cs (by decide +kernel)⟩, cs (by decide +kernel), cs (by decide +kernel), cs (by decide +kernel), cs (by decide +kernel)⟩, fun i _ _ => c6 _, fun h => absurd h (by rw [g0]; decide)⟩, ⟨fun _ i hi => absurd hi (by rw [k0]; omega), fun c h => (no h).elim, fun k h => (no h).elim⟩, ⟨fun x h => (no h).elim, fun f h => (no h).elim⟩, ⟨fun p a t u x h => (no h).elim, fun p a t u x h => (no h).elim, fun p a t u x h => (no h).elim, fun t y h => (no h).elim, fun w h => (no h).elim⟩, fun q o b h => (no h).elim, fun z q r h => (no h).elim⟩
noncomputable def eqB : Bool := PE9.all fun e => (List.range e.2.2.2.2.2).all fun i => σ00.1 e.2.1 (e.2.2.1 + i) == σ00.1 e.2.2.2.1 (e.2.2.2.2.1 + i)
theorem eqB_ok : eqB = true := by decide +kernel
theorem fresh_e : ∀ e ∈ PE9, eSp e [] σ00 := fun e he => ⟨fun _ i hi => eq_of_beq (List.all_eq_true.mp (List.all_eq_true.mp eqB_ok e he) i (List.mem_range.mpr hi)), fun z q => (by cases q)⟩
noncomputable def eqBL : Bool := PL9.all fun e => (List.range e.2.2.2.2.2).all fun i => σ00.2 e.2.1 (e.2.2.1 + i) == σ00.2 e.2.2.2.1 (e.2.2.2.2.1 + i)
theorem eqBL_ok : eqBL = true := by decide +kernel
theorem fresh_l : ∀ e ∈ PL9, lSp e [] σ00 := fun e he => ⟨fun _ i hi => eq_of_beq (List.all_eq_true.mp (List.all_eq_true.mp eqBL_ok e he) i (List.mem_range.mpr hi)), fun z q => (by cases q)⟩
theorem fresh_J : JJ [] σ00 := by
  refine ⟨fresh_bd, fun r R hr j hj _ => ?_, ?_⟩
  · obtain ⟨b, h1, h2⟩ := List.any_eq_true.mp (List.all_eq_true.mp rs_ok R (List.mem_of_getElem? hr))
    exact ⟨b, h1, zb_ok h2⟩
  · intro c hc
    rcases List.mem_cons.mp hc with rfl | hc
    · intro z hz; cases hz
    rcases List.mem_cons.mp hc with rfl | hc
    · intro z hz; cases hz
    rcases List.mem_cons.mp hc with rfl | hc
    · intro z hz; cases hz
    rcases List.mem_cons.mp hc with rfl | hc
    · intro f m hf
      have e : (σ00.1 110 148).toInt = 0 := by decide +kernel
      rw [e] at hf
      omega
    rcases List.mem_cons.mp hc with rfl | hc
    · intro _
      have e : (σ00.1 110 112).toInt = 0 := by decide +kernel
      have := (gsum_in (σ := σ00) (k := 183) 144).1
      have e2 : slack [] = 0 := rfl
      show (σ00.1 110 112).toInt + slack [] ≤ gsum σ00 183 144
      rw [e, e2]
      omega
    rcases List.mem_cons.mp hc with rfl | hc
    · have z : ∀ x, Pp σ00 125 x = 0 := fun x => lz (by decide +kernel) x
      have e1 : (σ00.1 110 20).toInt = 1 := by decide +kernel
      have e2 : (σ00.1 110 26).toInt = 0 := by decide +kernel
      refine ⟨fun h => ?_, fun _ x _ => z x, fun _ h => ?_, fun x _ => ?_, fun q t x h => (by cases h)⟩
      · rw [z 0] at h; omega
      · rw [e2] at h; omega
      · rw [z x, e1]; decide
    rcases List.mem_cons.mp hc with rfl | hc
    · have z : ∀ x, Pp σ00 QQ.r x = 0 := fun x => lz (k := 131) (by decide +kernel) x
      refine ⟨fun q n _ hn => ?_, fun _ q _ _ => ?_, fun P h => (by cases h), fun f e h w B N P q => (by cases q), fun r q => (by cases q), fun k t h q => (by cases q)⟩
      · rw [z q] at hn; omega
      · rw [z q]; decide
    rcases List.mem_cons.mp hc with rfl | hc
    · exact ⟨fun T q => (by cases q), fun T z q => (by cases q)⟩
    rcases List.mem_cons.mp hc with rfl | hc
    · exact fresh_e
    rcases List.mem_cons.mp hc with rfl | hc
    · exact fresh_l
    rcases List.mem_cons.mp hc with rfl | hc
    · show (σ00.1 11 0).toInt = -4; decide +kernel
    rcases List.mem_cons.mp hc with rfl | hc
    · exact Or.inr (show (σ00.1 110 20).toInt ≤ 1 by decide +kernel)
    rcases List.mem_cons.mp hc with rfl | hc
    · exact ⟨fun t x q => (by cases q), fun t w q => (by cases q)⟩
    rcases List.mem_cons.mp hc with rfl | hc
    · exact ⟨fun t x q => (by cases q), fun t x q => (by cases q), fun t x q => (by cases q)⟩
    rcases List.mem_cons.mp hc with rfl | hc
    · exact (⟨fun z q x a => (by cases a), fun z q r a => (by cases a)⟩ : wS 11 13 [] σ00)
    rcases List.mem_cons.mp hc with rfl | hc
    · show (σ00.1 12 0).toInt = -4; decide +kernel
    rcases List.mem_cons.mp hc with rfl | hc
    · exact (fun h _ => absurd h (by decide +kernel) : vS9 126 110 26 [] σ00)
    rcases List.mem_cons.mp hc with rfl | hc
    · exact (⟨⟨⟨fun a o h1 h2 h3 _ => (show ∀ a, a < 6 → ∀ o, o < 6 → a ≠ o → b2i (bitN (σ00.1 15 a) o) = efB 129 110 26 [] σ00 a o by decide +kernel) a h1 o h2 h3, fun _ _ i hi => (show ∀ i, i < 36 → (σ00.1 129 i).toInt = 0 by decide +kernel) i hi, fun n q => (by cases q), fun p q h => (by cases h)⟩, fun t o b h => (by cases h), fun t o w c h => (by cases h)⟩, ⟨fun _ _ _ => c0_of (by decide +kernel), fun i h => (by cases h), fun _ k i h => (by cases h), fun a b c h => (by cases h)⟩, fun a b h => (by cases h), fun a b c d h => (by cases h), fun a b c h => (by cases h), fun a c d h => (by cases h)⟩ : cS9b 15 129 110 26 16 [] σ00)
    rcases List.mem_cons.mp hc with rfl | hc
    · exact fresh_G
    · cases hc
end
