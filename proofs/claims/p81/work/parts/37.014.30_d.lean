noncomputable section
theorem fresh_GL9 : SL (rsT 870 999 []) (rsM RWgL9 σ00) := by
  have no : ∀ {t : Nat} {z : Int}, rsT 870 999 [] t = some z → False := fun h => by rw [rsT_nil] at h; cases h
  have col : ∀ {k : Nat}, (MA.all fun q => q.1 != k) = true → ∀ j, rsM RWgL9 σ00 k j = 0 := fun {k} h j => by
    show (bif RWgL9.any (Nat.beq k) then (σ00.1 k j).toInt else 0) = 0
    rw [lz h j]
    cases RWgL9.any (Nat.beq k) <;> rfl
  have c6 := col (k := 53) (by decide +kernel)
  have cs : ∀ {t kM c : Nat}, (MA.all fun q => q.1 != kM) = true → Col8 t kM c (rsT 870 999 []) (rsM RWgL9 σ00) := fun h => ⟨fun _ i _ => (c6 _).trans (col h i).symm, fun z h => (no h).elim⟩
  have g0 : rsM RWgL9 σ00 110 96 = 0 := by decide +kernel
  have k0 : rsM RWgL9 σ00 110 109 = 0 := by decide +kernel
  exact ⟨⟨⟨⟨cs (by decide +kernel), cs (by decide +kernel), cs (by decide +kernel), cs (by decide +kernel)⟩, cs (by decide +kernel), cs (by decide +kernel), cs (by decide +kernel), cs (by decide +kernel)⟩, fun i _ _ => c6 _, fun h => absurd h (by rw [g0]; decide)⟩, ⟨fun _ i hi => absurd hi (by rw [k0]; omega), fun c h => (no h).elim, fun k h => (no h).elim⟩, ⟨fun x h => (no h).elim, fun f h => (no h).elim⟩, ⟨fun p a t u x h => (no h).elim, fun p a t u x h => (no h).elim, fun p a t u x h => (no h).elim, fun t y h => (no h).elim, fun w h => (no h).elim⟩, fun q o b h => (no h).elim, fun z q r h => (no h).elim⟩
noncomputable def eqBL9 : Bool := PE9L9.all fun e => (List.range e.2.2.2.2.2).all fun i => σ00.1 e.2.1 (e.2.2.1 + i) == σ00.1 e.2.2.2.1 (e.2.2.2.2.1 + i)
theorem eqB_okL9 : eqBL9 = true := by decide +kernel
theorem fresh_eL9 : ∀ e ∈ PE9L9, eSp e [] σ00 := fun e he => ⟨fun _ i hi => eq_of_beq (List.all_eq_true.mp (List.all_eq_true.mp eqB_okL9 e he) i (List.mem_range.mpr hi)), fun z q => (by cases q)⟩
theorem fresh_JL9 : JJL9 [] σ00 := by
  refine ⟨fresh_bd, fun r R hr j hj _ => ?_, ?_⟩
  · obtain ⟨b, h1, h2⟩ := List.any_eq_true.mp (List.all_eq_true.mp rs_ok R (List.mem_of_getElem? hr))
    exact ⟨b, h1, zb_ok h2⟩
  · intro c hc
    rcases List.mem_cons.mp hc with rfl | hc
    · intro z hz; cases hz
    rcases List.mem_cons.mp hc with rfl | hc
    · intro z hz; cases hz
    rcases List.mem_cons.mp hc with rfl | hc
    · intro z hz; cases hz
    rcases List.mem_cons.mp hc with rfl | hc
    · intro f m hf
      have e : (σ00.1 110 148).toInt = 0 := by decide +kernel
      rw [e] at hf
      omega
    rcases List.mem_cons.mp hc with rfl | hc
    · intro _
      have e : (σ00.1 110 112).toInt = 0 := by decide +kernel
      have := (gsum_in (σ := σ00) (k := 183) 144).1
      have e2 : slack [] = 0 := rfl
      show (σ00.1 110 112).toInt + slack [] ≤ gsum σ00 183 144
      rw [e, e2]
      omega
    rcases List.mem_cons.mp hc with rfl | hc
    · have z : ∀ x, Pp σ00 125 x = 0 := fun x => lz (by decide +kernel) x
      have e1 : (σ00.1 110 20).toInt = 1 := by decide +kernel
      have e2 : (σ00.1 110 26).toInt = 0 := by decide +kernel
      refine ⟨fun h => ?_, fun _ x _ => z x, fun _ h => ?_, fun x _ => ?_, fun q t x h => (by cases h)⟩
      · rw [z 0] at h; omega
      · rw [e2] at h; omega
      · rw [z x, e1]; decide
    rcases List.mem_cons.mp hc with rfl | hc
    · have z : ∀ x, Pp σ00 QQ.r x = 0 := fun x => lz (k := 131) (by decide +kernel) x
      refine ⟨fun q n _ hn => ?_, fun _ q _ _ => ?_, fun P h => (by cases h), fun f e h w B N P q => (by cases q), fun r q => (by cases q), fun k t h q => (by cases q)⟩
      · rw [z q] at hn; omega
      · rw [z q]; decide
    rcases List.mem_cons.mp hc with rfl | hc
    · exact ⟨fun T q => (by cases q), fun T z q => (by cases q)⟩
    rcases List.mem_cons.mp hc with rfl | hc
    · exact fresh_eL9
    rcases List.mem_cons.mp hc with rfl | hc
    · exact fresh_l
    rcases List.mem_cons.mp hc with rfl | hc
    · show (σ00.1 11 0).toInt = -4; decide +kernel
    rcases List.mem_cons.mp hc with rfl | hc
    · exact Or.inr (show (σ00.1 110 20).toInt ≤ 1 by decide +kernel)
    rcases List.mem_cons.mp hc with rfl | hc
    · exact ⟨fun t x q => (by cases q), fun t w q => (by cases q)⟩
    rcases List.mem_cons.mp hc with rfl | hc
    · exact ⟨fun t x q => (by cases q), fun t x q => (by cases q), fun t x q => (by cases q)⟩
    rcases List.mem_cons.mp hc with rfl | hc
    · exact (⟨fun z q x a => (by cases a), fun z q r a => (by cases a)⟩ : wS 11 13 [] σ00)
    rcases List.mem_cons.mp hc with rfl | hc
    · show (σ00.1 12 0).toInt = -4; decide +kernel
    rcases List.mem_cons.mp hc with rfl | hc
    · exact (fun h _ => absurd h (by decide +kernel) : vS9 126 110 26 [] σ00)
    rcases List.mem_cons.mp hc with rfl | hc
    · exact (⟨⟨⟨fun a o h1 h2 h3 _ => (show ∀ a, a < 6 → ∀ o, o < 6 → a ≠ o → b2i (bitN (σ00.1 15 a) o) = efB 129 110 26 [] σ00 a o by decide +kernel) a h1 o h2 h3, fun _ _ i hi => (show ∀ i, i < 36 → (σ00.1 129 i).toInt = 0 by decide +kernel) i hi, fun n q => (by cases q), fun p q h => (by cases h)⟩, fun t o b h => (by cases h), fun t o w c h => (by cases h)⟩, ⟨fun _ _ _ => c0_of (by decide +kernel), fun i h => (by cases h), fun _ k i h => (by cases h), fun a b c h => (by cases h)⟩, fun a b h => (by cases h), fun a b c d h => (by cases h), fun a b c h => (by cases h), fun a c d h => (by cases h)⟩ : cS9b 15 129 110 26 16 [] σ00)
    rcases List.mem_cons.mp hc with rfl | hc
    · exact fresh_GL9
    · cases hc
end
