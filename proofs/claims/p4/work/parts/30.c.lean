/-! ===== what else holds; hints; all together ===== -/
def CS : List Cp := [cz 310 120 16, cz 311 201 4, cl 320 196, cf 110 148 211 210 206, cg9 110 112 183 144]
def hxT (h : Nat × (Nat × Nat)) (f : Fm) (s : Sy) : Option Sy :=
  bif Nat.beq h.1 1 then TJ.tg f h.2.1 s
  else bif Nat.beq h.1 10 then (bif Nat.beq h.2.1 310 then some (hz10 310 16 s) else bif Nat.beq h.2.1 311 then some (hz10 311 4 s) else some s)
  else bif Nat.beq h.1 11 then (bif Nat.beq h.2.1 310 then some (h11 310 s) else bif Nat.beq h.2.1 311 then some (h11 311 s) else bif Nat.beq h.2.1 320 then some (h11 320 s) else some s)
  else bif Nat.beq h.1 13 then some (hl13 320 s)
  else bif Nat.beq h.1 14 then some (hl14 320 s)
  else bif Nat.beq h.1 15 then (match lk s.hl 320 with
    | some a => some (hl15 196 a s.me s)
    | none => some s)
  else bif Nat.beq h.1 16 then (bif Nat.beq h.2.1 310 then (match lk s.hl 310 with
    | some a => hz16 120 16 a s.me s
    | none => some s) else match lk s.hl 311 with
    | some a => hz16 201 4 a s.me s
    | none => some s)
  else bif Nat.beq h.1 17 then some (hl17 320 196 s)
  else bif Nat.beq h.1 18 then some (hf18 110 148 211 210 206 s.me s)
  else bif Nat.beq h.1 20 then some (hg20 s)
  else bif Nat.beq h.1 21 then some (hg21 110 112 144 s)
  else some s
def trT (t k : Nat) : Bool := (Nat.beq t 310 && Nat.beq k 120) || ((Nat.beq t 311 && Nat.beq k 201) || (Nat.beq t 320 && Nat.beq k 196))
def GG : Gl := mkG [] []
def GX : Gx := mkX (TJ.P GG (cW CS)) hxT CTT trT
abbrev JJ : Jt := Jf TJ GG (cS CS)
theorem row_in {k kd n : Nat} (h : GG.ka.get k = some (kd, n)) : ∀ j, InB GG k j → j < n := by
  intro j hj
  rcases hj with ⟨q, _⟩ | ⟨kd', z, q, hj⟩
  · rw [h] at q; cases q
  · rw [h] at q; cases Option.some.inj q; exact hj
theorem CS_ok : ∀ c ∈ CS, CpOk TJ GG c := by
  intro c hc
  rcases List.mem_cons.mp hc with rfl | hc
  · exact cz_ok (by decide) (row_in (kd := 102) (by decide +kernel))
  rcases List.mem_cons.mp hc with rfl | hc
  · exact cz_ok (by decide) (row_in (kd := 102) (by decide +kernel))
  rcases List.mem_cons.mp hc with rfl | hc
  · exact cl_ok (by decide)
  rcases List.mem_cons.mp hc with rfl | hc
  · exact cf_ok (by decide) (by decide) (by decide) (by decide) (by decide) (by decide)
  rcases List.mem_cons.mp hc with rfl | hc
  · exact cg9_ok (by decide) (row_in (kd := 100) (by decide +kernel))
  · cases hc
theorem apt_0 : ∀ c' ∈ ([cz 311 201 4, cl 320 196, cf 110 148 211 210 206, cg9 110 112 183 144] : List Cp), ∀ t, (cz 310 120 16 : Cp).tg t = true → c'.tg t = false := by
  intro c' hc t ht
  have e : t = 310 := Nat.eq_of_beq_eq_true ht
  subst e
  rcases List.mem_cons.mp hc with rfl | hc
  · rfl
  rcases List.mem_cons.mp hc with rfl | hc
  · rfl
  rcases List.mem_cons.mp hc with rfl | hc
  · rfl
  rcases List.mem_cons.mp hc with rfl | hc
  · rfl
  · cases hc
theorem apt_1 : ∀ c' ∈ ([cl 320 196, cf 110 148 211 210 206, cg9 110 112 183 144] : List Cp), ∀ t, (cz 311 201 4 : Cp).tg t = true → c'.tg t = false := by
  intro c' hc t ht
  have e : t = 311 := Nat.eq_of_beq_eq_true ht
  subst e
  rcases List.mem_cons.mp hc with rfl | hc
  · rfl
  rcases List.mem_cons.mp hc with rfl | hc
  · rfl
  rcases List.mem_cons.mp hc with rfl | hc
  · rfl
  · cases hc
theorem apt_2 : ∀ c' ∈ ([cf 110 148 211 210 206, cg9 110 112 183 144] : List Cp), ∀ t, (cl 320 196 : Cp).tg t = true → c'.tg t = false := by
  intro c' hc t ht
  have e : t = 320 := Nat.eq_of_beq_eq_true ht
  subst e
  rcases List.mem_cons.mp hc with rfl | hc
  · rfl
  rcases List.mem_cons.mp hc with rfl | hc
  · rfl
  · cases hc
theorem apt_4 : ∀ c' ∈ ([] : List Cp), ∀ t, (cg9 110 112 183 144 : Cp).tg t = true → c'.tg t = false := by
  intro c' hc t ht
  cases hc
theorem CS_apt : Apt CS := ⟨apt_0, ⟨apt_1, ⟨apt_2, ⟨fun c _ t ht => (by cases ht), ⟨apt_4, trivial⟩⟩⟩⟩⟩
theorem u310 : ∀ c ∈ CS, c.tg 310 = true → c = cz 310 120 16 := by
  intro c hc h
  rcases List.mem_cons.mp hc with rfl | hc
  · rfl
  rcases List.mem_cons.mp hc with rfl | hc
  · cases h
  rcases List.mem_cons.mp hc with rfl | hc
  · cases h
  rcases List.mem_cons.mp hc with rfl | hc
  · cases h
  rcases List.mem_cons.mp hc with rfl | hc
  · cases h
  · cases hc
theorem u311 : ∀ c ∈ CS, c.tg 311 = true → c = cz 311 201 4 := by
  intro c hc h
  rcases List.mem_cons.mp hc with rfl | hc
  · cases h
  rcases List.mem_cons.mp hc with rfl | hc
  · rfl
  rcases List.mem_cons.mp hc with rfl | hc
  · cases h
  rcases List.mem_cons.mp hc with rfl | hc
  · cases h
  rcases List.mem_cons.mp hc with rfl | hc
  · cases h
  · cases hc
theorem u320 : ∀ c ∈ CS, c.tg 320 = true → c = cl 320 196 := by
  intro c hc h
  rcases List.mem_cons.mp hc with rfl | hc
  · cases h
  rcases List.mem_cons.mp hc with rfl | hc
  · cases h
  rcases List.mem_cons.mp hc with rfl | hc
  · rfl
  rcases List.mem_cons.mp hc with rfl | hc
  · cases h
  rcases List.mem_cons.mp hc with rfl | hc
  · cases h
  · cases hc
theorem u331 : ∀ c ∈ CS, c.tg 331 = true → c = cg9 110 112 183 144 := by
  intro c hc h
  rcases List.mem_cons.mp hc with rfl | hc
  · cases h
  rcases List.mem_cons.mp hc with rfl | hc
  · cases h
  rcases List.mem_cons.mp hc with rfl | hc
  · cases h
  rcases List.mem_cons.mp hc with rfl | hc
  · cases h
  rcases List.mem_cons.mp hc with rfl | hc
  · rfl
  · cases hc
theorem m310 : cz 310 120 16 ∈ CS := List.mem_cons_self ..
theorem m311 : cz 311 201 4 ∈ CS := List.mem_cons_of_mem _ (List.mem_cons_self ..)
theorem m320 : cl 320 196 ∈ CS := List.mem_cons_of_mem _ (List.mem_cons_of_mem _ (List.mem_cons_self ..))
theorem mcf : cf 110 148 211 210 206 ∈ CS := List.mem_cons_of_mem _ (List.mem_cons_of_mem _ (List.mem_cons_of_mem _ (List.mem_cons_self ..)))
theorem mcg : cg9 110 112 183 144 ∈ CS := List.mem_cons_of_mem _ (List.mem_cons_of_mem _ (List.mem_cons_of_mem _ (List.mem_cons_of_mem _ (List.mem_cons_self ..))))
theorem GX_J : POk GX.g GX.P JJ := P_ok TJ_wf (cS_ok CS_ok CS_apt)
theorem del_z {t k n : Nat} {H : List (Nat × Int)} {σ : zS} : (cz t k n).S (hdel t H) σ := fun z hz => by rw [lk_hdel, if_pos rfl] at hz; cases hz
theorem del_l {t k : Nat} {H : List (Nat × Int)} {σ : zS} : (cl t k).S (hdel t H) σ := fun z hz => by rw [lk_hdel, if_pos rfl] at hz; cases hz
theorem GX_H : HOk GX JJ := by
  intro h f s ρ σ ho
  have same : ∃ s' ρ', some s = some s' ∧ Pre ρ ρ' ∧ Ok JJ s' ρ' σ := ⟨s, ρ, rfl, Pre.rf, ho⟩
  show ∃ s' ρ', hxT h f s = some s' ∧ Pre ρ ρ' ∧ Ok JJ s' ρ' σ
  unfold hxT
  cases Nat.beq h.1 1 with
  | true =>
    obtain ⟨s', e1, e2⟩ := tg_ok (f := f) (i := h.2.1) ho
    exact ⟨s', ρ, e1, Pre.rf, e2⟩
  | false =>
  cases Nat.beq h.1 10 with
  | true =>
    cases Nat.beq h.2.1 310 with
    | true =>
      obtain ⟨ρ', e1, e2⟩ := hz10_ok TJ_wf CS_ok (by decide) u310 ho
      exact ⟨_, ρ', rfl, e1, e2⟩
    | false =>
    cases Nat.beq h.2.1 311 with
    | true =>
      obtain ⟨ρ', e1, e2⟩ := hz10_ok TJ_wf CS_ok (by decide) u311 ho
      exact ⟨_, ρ', rfl, e1, e2⟩
    | false => exact same
  | false =>
  cases Nat.beq h.1 11 with
  | true =>
    cases Nat.beq h.2.1 310 with
    | true => exact ⟨_, ρ, rfl, Pre.rf, h11_ok TJ_wf CS_ok (by decide) (fun c q e H σ _ => by rw [u310 c q e]; exact del_z) ho⟩
    | false =>
    cases Nat.beq h.2.1 311 with
    | true => exact ⟨_, ρ, rfl, Pre.rf, h11_ok TJ_wf CS_ok (by decide) (fun c q e H σ _ => by rw [u311 c q e]; exact del_z) ho⟩
    | false =>
    cases Nat.beq h.2.1 320 with
    | true => exact ⟨_, ρ, rfl, Pre.rf, h11_ok TJ_wf CS_ok (by decide) (fun c q e H σ _ => by rw [u320 c q e]; exact del_l) ho⟩
    | false => exact same
  | false =>
  cases Nat.beq h.1 13 with
  | true => exact ⟨_, ρ, rfl, Pre.rf, hl13_ok TJ_wf CS_ok (by decide) u320 m320 ho⟩
  | false =>
  cases Nat.beq h.1 14 with
  | true => exact ⟨_, ρ, rfl, Pre.rf, hl14_ok TJ_wf CS_ok (by decide) u320 ho⟩
  | false =>
  cases Nat.beq h.1 15 with
  | true =>
    simp only [cond_true, cond_false]
    split
    · rename_i a ha
      obtain ⟨H, i1, i2⟩ := ho.inv
      rcases i1.lkp (t := 320) with ⟨q1, q2⟩ | ⟨a', z, q1, q2, q3⟩
      · rw [ha] at q1; cases q1
      · rw [ha] at q1
        cases Option.some.inj q1
        exact ⟨_, ρ, rfl, Pre.rf, hl15_ok q3 (fun j hj => i2.2.2 _ m320 z q2 j hj) ho ho.me⟩
    · exact same
  | false =>
  cases Nat.beq h.1 16 with
  | true =>
    simp only [cond_true, cond_false]
    cases Nat.beq h.2.1 310 with
    | true =>
      simp only [cond_true]
      split
      · rename_i a ha
        obtain ⟨H, i1, i2⟩ := ho.inv
        rcases i1.lkp (t := 310) with ⟨q1, q2⟩ | ⟨a', z, q1, q2, q3⟩
        · rw [ha] at q1; cases q1
        · rw [ha] at q1
          cases Option.some.inj q1
          have e := i2.2.2 _ m310 z q2
          obtain ⟨s', e1, e2⟩ := hz16_ok (by rw [← e]; exact q3) ho ho.me
          exact ⟨s', ρ, e1, Pre.rf, e2⟩
      · exact same
    | false =>
      simp only [cond_false]
      split
      · rename_i a ha
        obtain ⟨H, i1, i2⟩ := ho.inv
        rcases i1.lkp (t := 311) with ⟨q1, q2⟩ | ⟨a', z, q1, q2, q3⟩
        · rw [ha] at q1; cases q1
        · rw [ha] at q1
          cases Option.some.inj q1
          have e := i2.2.2 _ m311 z q2
          obtain ⟨s', e1, e2⟩ := hz16_ok (by rw [← e]; exact q3) ho ho.me
          exact ⟨s', ρ, e1, Pre.rf, e2⟩
      · exact same
  | false =>
  cases Nat.beq h.1 17 with
  | true => exact ⟨_, ρ, rfl, Pre.rf, hl17_ok TJ_wf CS_ok (by decide) u320 m320 ho⟩
  | false =>
  cases Nat.beq h.1 18 with
  | true =>
    obtain ⟨H, i1, i2⟩ := ho.inv
    exact ⟨_, ρ, rfl, Pre.rf, hf18_ok (i2.2.2 _ mcf) ho ho.me⟩
  | false =>
  cases Nat.beq h.1 20 with
  | true => exact ⟨_, ρ, rfl, Pre.rf, hg20_ok TJ_wf CS_ok u331 ho⟩
  | false =>
  cases Nat.beq h.1 21 with
  | true => exact ⟨_, ρ, rfl, Pre.rf, hg21_ok mcg ho⟩
  | false => exact same
theorem low_nil {H : List (Nat × Int)} (hb : ∀ e ∈ H, 100 ≤ e.1 ∧ e.1 < 330) {r : Nat} (hr : r < 100 ∨ 330 ≤ r) : lk H r = none := by
  cases h : lk H r with
  | none => rfl
  | some x => have := hb _ (lk_mem h); dsimp only at this; omega
theorem nil_S {H : List (Nat × Int)} {σ : zS} (hb : ∀ e ∈ H, 100 ≤ e.1 ∧ e.1 < 330) : ∀ c ∈ CS, c.S H σ → c.S [] σ := by
  intro c hc hS
  rcases List.mem_cons.mp hc with rfl | hc
  · intro z hz; cases hz
  rcases List.mem_cons.mp hc with rfl | hc
  · intro z hz; cases hz
  rcases List.mem_cons.mp hc with rfl | hc
  · intro z hz; cases hz
  rcases List.mem_cons.mp hc with rfl | hc
  · exact hS
  rcases List.mem_cons.mp hc with rfl | hc
  · exact (CS_ok _ mcg).dep H [] σ σ (fun u hu => by
    have hu : (Nat.beq u 330 || Nat.beq u 331) = true := hu
    rw [Bool.or_eq_true] at hu
    rcases hu with hu | hu <;> rw [Nat.eq_of_beq_eq_true hu, low_nil hb (by decide)] <;> rfl) (fun _ _ => rfl) hS
  · cases hc
theorem GX_F : JFr GX JJ := by
  refine ⟨fun H σ hb hJ => ⟨hJ.1, fun r R hr j hj _ => hJ.2.1 r R hr j hj (by rw [low_nil hb (Or.inl (wf_row TJ_wf hr).1)]; intro q; cases q), fun c q => nil_S hb c q (hJ.2.2 c q)⟩, fun H σ σ' hb hJ hJ' hr => ⟨hJ'.1, fun r R hr j hj _ => hJ'.2.1 r R hr j hj (by intro q; cases q), ?_⟩, ?_⟩
  · have one : ∀ c ∈ CS, ∀ t k : Nat, (∀ u, c.tg u = Nat.beq u t) → (∀ u, c.rw u = Nat.beq u k) → trT t k = true → c.S H σ' := by
      intro c q t k h1 h2 h3
      cases hl : lk H t with
      | none => exact (CS_ok c q).dep [] H σ' σ' (fun u hu => by rw [h1] at hu; rw [Nat.eq_of_beq_eq_true hu, hl]; rfl) (fun _ _ => rfl) (hJ'.2.2 c q)
      | some x => exact (CS_ok c q).dep H H σ σ' (fun _ _ => rfl) (fun u hu => by rw [h2] at hu; rw [Nat.eq_of_beq_eq_true hu]; exact hr _ (lk_mem hl) k h3) (hJ.2.2 c q)
    intro c hc0
    have hc := hc0
    rcases List.mem_cons.mp hc with rfl | hc
    · exact one _ hc0 310 120 (fun _ => rfl) (fun _ => rfl) rfl
    rcases List.mem_cons.mp hc with rfl | hc
    · exact one _ hc0 311 201 (fun _ => rfl) (fun _ => rfl) rfl
    rcases List.mem_cons.mp hc with rfl | hc
    · exact one _ hc0 320 196 (fun _ => rfl) (fun _ => rfl) rfl
    rcases List.mem_cons.mp hc with rfl | hc
    · exact hJ'.2.2 _ mcf
    rcases List.mem_cons.mp hc with rfl | hc
    · exact (CS_ok _ mcg).dep [] H σ' σ' (fun u hu => by
        have hu : (Nat.beq u 330 || Nat.beq u 331) = true := hu
        rw [Bool.or_eq_true] at hu
        rcases hu with hu | hu <;> rw [Nat.eq_of_beq_eq_true hu, low_nil hb (by decide)] <;> rfl) (fun _ _ => rfl) (hJ'.2.2 _ mcg)
    · cases hc
  · intro t k h
    have h : trT t k = true := h
    unfold trT at h
    simp only [Bool.or_eq_true, Bool.and_eq_true] at h
    rcases h with ⟨_, h⟩ | ⟨_, h⟩ | ⟨_, h⟩ <;> rw [Nat.eq_of_beq_eq_true h] <;> decide +kernel
theorem GX_G : GxOk Yf GX := G_ok _ _ _ _
