/-! ===== the fresh state ===== -/
def inDb (x : Int) (d : Dom) : Bool := d.any fun p => ile p.1 x && ile x p.2
theorem inDb_ok {x : Int} {d : Dom} (h : inDb x d = true) : inD x d := by
  obtain ⟨p, h1, h2⟩ := List.any_eq_true.mp h
  rw [Bool.and_eq_true, ile_iff, ile_iff] at h2
  exact ⟨p, h1, h2.1, h2.2⟩
def rowIn (k : Nat) (d : Dom) : Bool := inDb 0 d && MA.all fun q => !(Nat.beq q.1 k) || inDb q.2.2.toInt d
theorem rowIn_ok {k : Nat} {d : Dom} (h : rowIn k d = true) (j : Nat) : inD (lm MA k j).toInt d := by
  unfold rowIn at h
  rw [Bool.and_eq_true] at h
  unfold lm
  split
  · rename_i q hq
    have h1 := List.mem_of_find?_eq_some hq
    have h2 := List.find?_some hq
    rw [Bool.and_eq_true] at h2
    have h3 := List.all_eq_true.mp h.2 q h1
    rw [Bool.or_eq_true] at h3
    rcases h3 with h3 | h3
    · rw [beq_iff_eq.mp h2.1, Nat.beq_refl] at h3
      cases h3
    · exact inDb_ok h3
  · exact inDb_ok h.1
def startOk (fi ai : BT Dom) : Bool := (fi.all fun x d => inDb (lm MA (x / 1024) (x % 1024)).toInt d) && ai.all fun k d => rowIn k d
theorem start_J {fi ai : BT Dom} (h : startOk fi ai = true) : Jd (mkG fi ai) σ00 := by
  unfold startOk at h
  rw [Bool.and_eq_true] at h
  refine ⟨fun k j d hj hl _ => ?_, fun k kd z j d _ hl _ => ?_⟩
  · have := (BT.all_P h.1).at hl
    simp only [(kf_key hj).1, (kf_key hj).2] at this
    exact inDb_ok this
  · exact rowIn_ok ((BT.all_P h.2).at hl) j
def meOk (s : Sy) : Bool := (s.me.all fun e => match e.2.1, e.2.2 with
  | .c (.ofNat j), .c v => ile (lm MA e.1 j).toInt v && ile v (lm MA e.1 j).toInt
  | _, _ => false) && s.un.all fun e => match e.2.2 with
  | .c v => rowIn e.1 [(v, v)]
  | _ => false
theorem ok_start {fi ai : BT Dom} {s : Sy} {ρ : List Int} (h1 : startOk fi ai = true) (h2 : meOk s = true) (hn : ρ.length = s.nx) (he : ∀ e ∈ s.env, ∃ x, ρ[e.1]? = some x ∧ inD x e.2) : Ok (Jd (mkG fi ai)) s ρ σ00 := by
  unfold meOk at h2
  rw [Bool.and_eq_true] at h2
  refine ⟨hn, he, fun e hm => ?_, fun e hm => ?_, start_J h1⟩
  · have := List.all_eq_true.mp h2.1 e hm
    split at this
    · rename_i j v e1 e2
      rw [Bool.and_eq_true] at this
      have hv := ile_eq this
      refine ⟨j, by rw [e1]; rfl, Or.inl ⟨by rw [e2]; rfl, ?_⟩⟩
      rw [e2]
      exact congrArg some hv.symm
    · cases this
  · have := List.all_eq_true.mp h2.2 e hm
    split at this
    · rename_i v e1
      refine ⟨by rw [e1]; rfl, fun j _ => ?_⟩
      rw [e1]
      have := inD_one (rowIn_ok this j)
      exact congrArg some (show v = (lm MA e.1 j).toInt by omega)
    · cases this
theorem in01 {x : Int32} (h : x = 0 ∨ x = 1) : inD x.toInt [(0, 1)] := by
  rcases h with rfl | rfl
  · exact ⟨_, List.mem_cons_self .., by decide, by decide⟩
  · exact ⟨_, List.mem_cons_self .., by decide, by decide⟩
theorem evi {ρ : List Int} {i : Nat} {x : Int} (h : ρ[i]? = some x) : ev ρ (.i i 0) = some x := by simp only [ev, h, Int.add_zero]
theorem evl {ρ : List Int} {i : Nat} {x : Int} (h : ρ[i]? = some x) : ev ρ (.l i 0) = some x := by simp only [ev, h, Int.add_zero]
theorem inp {x a b : Int} (h : a ≤ x ∧ x ≤ b) : inD x [(a, b)] := ⟨_, List.mem_cons_self .., h.1, h.2⟩
