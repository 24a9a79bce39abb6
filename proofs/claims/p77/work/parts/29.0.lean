noncomputable section
/-! ===== WHAT ELSE HOLDS, 15: its parts ===== -/
/-- a part of what else holds: its tags; what holds; the rows (and objects) of ints that it speaks of; the open tags behind a write of an int; the rows of longs that it speaks of; the open tags behind a write of a long -/
abbrev Cp : Type := (Nat → Bool) × ((List (Nat × Int) → zS → Prop) × ((Nat → Bool) × ((Sy → List (Nat × AV) → Nat → AV → AV → Option (List (Nat × AV))) × ((Nat → Bool) × (Sy → List (Nat × AV) → Nat → AV → AV → Option (List (Nat × AV)))))))
abbrev Cp.tg (c : Cp) : Nat → Bool := c.1
abbrev Cp.S (c : Cp) : List (Nat × Int) → zS → Prop := c.2.1
abbrev Cp.rw (c : Cp) : Nat → Bool := c.2.2.1
abbrev Cp.w (c : Cp) : Sy → List (Nat × AV) → Nat → AV → AV → Option (List (Nat × AV)) := c.2.2.2.1
abbrev Cp.lr (c : Cp) : Nat → Bool := c.2.2.2.2.1
abbrev Cp.wl (c : Cp) : Sy → List (Nat × AV) → Nat → AV → AV → Option (List (Nat × AV)) := c.2.2.2.2.2
/-- no rows of longs -/
def nlw : (Nat → Bool) × (Sy → List (Nat × AV) → Nat → AV → AV → Option (List (Nat × AV))) := (fun _ => false, fun _ hl _ _ _ => some hl)
def Bd (T : Jx) (G : Gl) (σ : zS) : Prop := ∀ k j, InB G k j → inD (σ.1 k j).toInt (T.bd G k j)
abbrev CpOk0 (T : Jx) (G : Gl) (c : Cp) : Prop := (∀ t, c.tg t = true → 100 ≤ t) ∧ (∀ H H' σ σ', (∀ t, c.tg t = true → lk H' t = lk H t) → (∀ k, c.rw k = true → σ'.1 k = σ.1 k) → c.S H σ → c.S H' σ') ∧ (∀ s ρ σ k p v j x hl hl' H, Ok (fun _ _ => True) s ρ σ → Bd T G σ → ev ρ p = some ((j : Nat) : Int) → InB G k j → v.isI = true → ev ρ v = some (Int32.toInt x) → c.rw k = true → c.w s hl k p v = some hl' → Hl ρ hl H → c.S H σ → ∃ H', Hl ρ hl' H' ∧ c.S H' (zI σ k j x) ∧ ∀ t, c.tg t = false → lk H' t = lk H t)
abbrev CpOk (T : Jx) (G : Gl) (c : Cp) : Prop := (∀ t, c.tg t = true → 100 ≤ t) ∧ (∀ H H' σ σ', (∀ t, c.tg t = true → lk H' t = lk H t) → (∀ k, c.rw k = true → σ'.1 k = σ.1 k) → (∀ k, c.lr k = true → σ'.2 k = σ.2 k) → c.S H σ → c.S H' σ') ∧ (∀ s ρ σ k p v j x hl hl' H, Ok (fun _ _ => True) s ρ σ → Bd T G σ → ev ρ p = some ((j : Nat) : Int) → InB G k j → v.isI = true → ev ρ v = some (Int32.toInt x) → c.rw k = true → c.w s hl k p v = some hl' → Hl ρ hl H → c.S H σ → ∃ H', Hl ρ hl' H' ∧ c.S H' (zI σ k j x) ∧ ∀ t, c.tg t = false → lk H' t = lk H t) ∧ (∀ s ρ σ k p v j x hl hl' H, Ok (fun _ _ => True) s ρ σ → ev ρ p = some ((j : Nat) : Int) → InB G k j → v.isL = true → ev ρ v = some (Int64.toInt x) → c.lr k = true → c.wl s hl k p v = some hl' → Hl ρ hl H → c.S H σ → ∃ H', Hl ρ hl' H' ∧ c.S H' (zJ σ k j x) ∧ ∀ t, c.tg t = false → lk H' t = lk H t)
theorem CpOk.no {T : Jx} {G : Gl} {c : Cp} (hl : ∀ k, c.lr k = false) (h : CpOk0 T G c) : CpOk T G c := ⟨h.1, fun H H' σ σ' h1 h2 _ hS => h.2.1 H H' σ σ' h1 h2 hS, h.2.2, fun s ρ σ k p v j x hl2 hl' H _ _ _ _ _ hr => by rw [hl k] at hr; cases hr⟩
theorem CpOk.big {T : Jx} {G : Gl} {c : Cp} (h : CpOk T G c) : ∀ t, c.tg t = true → 100 ≤ t := h.1
theorem CpOk.dep {T : Jx} {G : Gl} {c : Cp} (h : CpOk T G c) (H H' : List (Nat × Int)) (σ σ' : zS) (h1 : ∀ t, c.tg t = true → lk H' t = lk H t) (h2 : ∀ k, c.rw k = true → σ'.1 k = σ.1 k) (hS : c.S H σ) (h3 : ∀ k, c.lr k = true → σ'.2 k = σ.2 k := by exact fun _ _ => rfl) : c.S H' σ' := h.2.1 H H' σ σ' h1 h2 h3 hS
/-- all parts -/
def cS (cs : List Cp) : Jt := fun H σ => ∀ c ∈ cs, c.S H σ
def cw (s : Sy) (k : Nat) (p v : AV) : List Cp → List (Nat × AV) → Option (List (Nat × AV))
  | [], hl => some hl
  | c :: cs, hl => bif c.rw k then (match c.w s hl k p v with
    | some hl' => cw s k p v cs hl'
    | none => none) else cw s k p v cs hl
def cwl (s : Sy) (k : Nat) (p v : AV) : List Cp → List (Nat × AV) → Option (List (Nat × AV))
  | [], hl => some hl
  | c :: cs, hl => bif c.lr k then (match c.wl s hl k p v with
    | some hl' => cwl s k p v cs hl'
    | none => none) else cwl s k p v cs hl
def cW (cs : List Cp) : Sw := (fun s k p v => cw s k p v cs s.hl, (fun s k p v => cwl s k p v cs s.hl, (fun k => !(cs.any fun c => c.lr k), fun k => !(cs.any fun c => c.rw k))))
/-- tags of one part only -/
def Apt : List Cp → Prop
  | [] => True
  | c :: cs => (∀ c' ∈ cs, ∀ t, c.tg t = true → c'.tg t = false) ∧ Apt cs
section C15
variable {T : Jx} {G : Gl}
theorem zI_row {σ : zS} {k j k' : Nat} {x : Int32} (h : k' ≠ k) : (zI σ k j x).1 k' = σ.1 k' := by simp [zI, xup, h]
theorem zIr_row {σ : zS} {k k' : Nat} {f : Nat → Int32} (h : k' ≠ k) : (zIr σ k f).1 k' = σ.1 k' := by simp [zIr, xup, h]
theorem zJ_row {σ : zS} {k j k' : Nat} {x : Int64} (h : k' ≠ k) : (zJ σ k j x).2 k' = σ.2 k' := by simp [zJ, xup, h]
theorem zJr_row {σ : zS} {k k' : Nat} {f : Nat → Int64} (h : k' ≠ k) : (zJr σ k f).2 k' = σ.2 k' := by simp [zJr, xup, h]
theorem cw_ok {s : Sy} {ρ : List Int} {σ : zS} {k j : Nat} {p v : AV} {x : Int32} (ho : Ok (fun _ _ => True) s ρ σ) (hb : Bd T G σ) (hp : ev ρ p = some (j : Int)) (hi : InB G k j) (hv : v.isI = true) (hx : ev ρ v = some x.toInt) : ∀ {cs : List Cp} {hl hl' : List (Nat × AV)} {H : List (Nat × Int)}, (∀ c ∈ cs, CpOk T G c) → Apt cs → cw s k p v cs hl = some hl' → Hl ρ hl H → (∀ c ∈ cs, c.S H σ) → ∃ H', Hl ρ hl' H' ∧ (∀ c ∈ cs, c.S H' (zI σ k j x)) ∧ ∀ t, (∀ c ∈ cs, c.tg t = false) → lk H' t = lk H t
  | [], hl, hl', H, _, _, h, hh, _ => by
    cases Option.some.inj h
    exact ⟨H, hh, fun c hc => (by cases hc), fun _ _ => rfl⟩
  | c :: cs, hl, hl', H, hc, hd, h, hh, hS => by
    have hc0 := hc c (List.mem_cons_self ..)
    have hcs : ∀ c' ∈ cs, CpOk T G c' := fun c' q => hc c' (List.mem_cons_of_mem _ q)
    unfold cw at h
    cases hr : c.rw k with
    | false =>
      rw [hr] at h
      obtain ⟨H', a1, a2, a3⟩ := cw_ok ho hb hp hi hv hx hcs hd.2 h hh (fun c' q => hS c' (List.mem_cons_of_mem _ q))
      refine ⟨H', a1, fun c' q => ?_, fun t q => a3 t (fun c' q' => q c' (List.mem_cons_of_mem _ q'))⟩
      rcases List.mem_cons.mp q with rfl | q
      · exact hc0.dep H H' σ _ (fun t ht => a3 t (fun c'' q' => hd.1 c'' q' t ht)) (fun k' hk' => zI_row (fun e => by rw [e, hr] at hk'; cases hk')) (hS c' (List.mem_cons_self ..))
      · exact a2 c' q
    | true =>
      rw [hr] at h
      simp only [cond_true] at h
      split at h
      · rename_i hl1 h1
        obtain ⟨H1, b1, b2, b3⟩ := hc0.2.2.1 s ρ σ k p v j x hl hl1 H ho hb hp hi hv hx hr h1 hh (hS c (List.mem_cons_self ..))
        have ap : ∀ c' ∈ cs, ∀ t, c'.tg t = true → c.tg t = false := fun c' q t ht => by
          cases e : c.tg t with
          | false => rfl
          | true => rw [hd.1 c' q t e] at ht; cases ht
        obtain ⟨H', a1, a2, a3⟩ := cw_ok ho hb hp hi hv hx hcs hd.2 h b1 (fun c' q => (hcs c' q).dep H H1 σ σ (fun t ht => b3 t (ap c' q t ht)) (fun _ _ => rfl) (hS c' (List.mem_cons_of_mem _ q)))
        refine ⟨H', a1, fun c' q => ?_, fun t q => (a3 t (fun c' q' => q c' (List.mem_cons_of_mem _ q'))).trans (b3 t (q c (List.mem_cons_self ..)))⟩
        rcases List.mem_cons.mp q with rfl | q
        · exact hc0.dep H1 H' _ _ (fun t ht => a3 t (fun c'' q' => hd.1 c'' q' t ht)) (fun _ _ => rfl) b2
        · exact a2 c' q
      · cases h
theorem cwl_ok {s : Sy} {ρ : List Int} {σ : zS} {k j : Nat} {p v : AV} {x : Int64} (ho : Ok (fun _ _ => True) s ρ σ) (hp : ev ρ p = some (j : Int)) (hi : InB G k j) (hv : v.isL = true) (hx : ev ρ v = some x.toInt) : ∀ {cs : List Cp} {hl hl' : List (Nat × AV)} {H : List (Nat × Int)}, (∀ c ∈ cs, CpOk T G c) → Apt cs → cwl s k p v cs hl = some hl' → Hl ρ hl H → (∀ c ∈ cs, c.S H σ) → ∃ H', Hl ρ hl' H' ∧ (∀ c ∈ cs, c.S H' (zJ σ k j x)) ∧ ∀ t, (∀ c ∈ cs, c.tg t = false) → lk H' t = lk H t
  | [], hl, hl', H, _, _, h, hh, _ => by
    cases Option.some.inj h
    exact ⟨H, hh, fun c hc => (by cases hc), fun _ _ => rfl⟩
  | c :: cs, hl, hl', H, hc, hd, h, hh, hS => by
    have hc0 := hc c (List.mem_cons_self ..)
    have hcs : ∀ c' ∈ cs, CpOk T G c' := fun c' q => hc c' (List.mem_cons_of_mem _ q)
    unfold cwl at h
    cases hr : c.lr k with
    | false =>
      rw [hr] at h
      obtain ⟨H', a1, a2, a3⟩ := cwl_ok ho hp hi hv hx hcs hd.2 h hh (fun c' q => hS c' (List.mem_cons_of_mem _ q))
      refine ⟨H', a1, fun c' q => ?_, fun t q => a3 t (fun c' q' => q c' (List.mem_cons_of_mem _ q'))⟩
      rcases List.mem_cons.mp q with rfl | q
      · exact hc0.dep H H' σ _ (fun t ht => a3 t (fun c'' q' => hd.1 c'' q' t ht)) (fun _ _ => rfl) (hS c' (List.mem_cons_self ..)) (fun k' hk' => zJ_row (fun e => by rw [e, hr] at hk'; cases hk'))
      · exact a2 c' q
    | true =>
      rw [hr] at h
      simp only [cond_true] at h
      split at h
      · rename_i hl1 h1
        obtain ⟨H1, b1, b2, b3⟩ := hc0.2.2.2 s ρ σ k p v j x hl hl1 H ho hp hi hv hx hr h1 hh (hS c (List.mem_cons_self ..))
        have ap : ∀ c' ∈ cs, ∀ t, c'.tg t = true → c.tg t = false := fun c' q t ht => by
          cases e : c.tg t with
          | false => rfl
          | true => rw [hd.1 c' q t e] at ht; cases ht
        obtain ⟨H', a1, a2, a3⟩ := cwl_ok ho hp hi hv hx hcs hd.2 h b1 (fun c' q => (hcs c' q).dep H H1 σ σ (fun t ht => b3 t (ap c' q t ht)) (fun _ _ => rfl) (hS c' (List.mem_cons_of_mem _ q)))
        refine ⟨H', a1, fun c' q => ?_, fun t q => (a3 t (fun c' q' => q c' (List.mem_cons_of_mem _ q'))).trans (b3 t (q c (List.mem_cons_self ..)))⟩
        rcases List.mem_cons.mp q with rfl | q
        · exact hc0.dep H1 H' _ _ (fun t ht => a3 t (fun c'' q' => hd.1 c'' q' t ht)) (fun _ _ => rfl) b2
        · exact a2 c' q
      · cases h
theorem cS_ok {cs : List Cp} (hc : ∀ c ∈ cs, CpOk T G c) (hd : Apt cs) : SOk T G (cS cs) (cW cs) := by
  refine ⟨?_, ?_, ?_, ?_, ?_⟩
  · intro s ρ σ k p v j x hl H ho hp hi hv hx hw hh hJ
    obtain ⟨H', a1, a2, a3⟩ := cw_ok (ho.any (fun _ _ => trivial)) hJ.1 hp hi hv hx hc hd hw hh hJ.2.2
    refine ⟨H', a1, a2, fun t ht => a3 t (fun c q => ?_)⟩
    cases e : c.tg t with
    | false => rfl
    | true => have := (hc c q).big t e; omega
  · intro s ρ σ k p v j x hl H ho hp hi hv hx hw hh hJ
    obtain ⟨H', a1, a2, a3⟩ := cwl_ok (ho.any (fun _ _ => trivial)) hp hi hv hx hc hd hw hh hJ.2.2
    refine ⟨H', a1, a2, fun t ht => a3 t (fun c q => ?_)⟩
    cases e : c.tg t with
    | false => rfl
    | true => have := (hc c q).big t e; omega
  · intro H σ k f hk hS c q
    refine (hc c q).dep H H σ _ (fun _ _ => rfl) (fun _ _ => rfl) (hS c q) (fun k' hk' => zJr_row (fun e => ?_))
    have : (cs.any fun c => c.lr k) = true := List.any_eq_true.mpr ⟨c, q, by rw [← e]; exact hk'⟩
    have h2 : (!(cs.any fun c => c.lr k)) = true := hk
    rw [this] at h2
    cases h2
  · intro H σ k f hk hS c q
    refine (hc c q).dep H H σ _ (fun _ _ => rfl) (fun k' hk' => zIr_row (fun e => ?_)) (hS c q)
    have : (cs.any fun c => c.rw k) = true := List.any_eq_true.mpr ⟨c, q, by rw [← e]; exact hk'⟩
    have h2 : (!(cs.any fun c => c.rw k)) = true := hk
    rw [this] at h2
    cases h2
  · intro H H' σ hl hS c q
    exact (hc c q).dep H H' σ σ (fun t ht => hl t ((hc c q).big t ht)) (fun _ _ => rfl) (hS c q)
/-- other open tags: of one part -/
theorem Jf_tag {cs : List Cp} (hwf : T.wf = true) (hc : ∀ c ∈ cs, CpOk T G c) {H H' : List (Nat × Int)} {σ : zS} {t : Nat} (ht : 100 ≤ t) (hl : ∀ u, u ≠ t → lk H' u = lk H u) (hJ : Jf T G (cS cs) H σ) (hn : ∀ c ∈ cs, c.tg t = true → c.S H' σ) : Jf T G (cS cs) H' σ := by
  refine ⟨hJ.1, fun r R hr j hj hq => hJ.2.1 r R hr j hj (by rw [← hl r (by have := (wf_row hwf hr).1; omega)]; exact hq), fun c q => ?_⟩
  cases e : c.tg t with
  | true => exact hn c q e
  | false => exact (hc c q).dep H H' σ σ (fun u hu => hl u (fun e2 => by rw [e2, e] at hu; cases hu)) (fun _ _ => rfl) (hJ.2.2 c q)
end C15
end
