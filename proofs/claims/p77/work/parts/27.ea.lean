noncomputable section
/-! ===== THE WALK, 8: frames, cuts, contracts ===== -/
abbrev Fm : Type := Nat × (Nat × ((List (Nat × AV)) × ((List AV))))
abbrev Fm.m (a : Fm) : Nat := a.1
abbrev Fm.pc (a : Fm) : Nat := a.2.1
abbrev Fm.lv (a : Fm) : (List (Nat × AV)) := a.2.2.1
abbrev Fm.st (a : Fm) : (List AV) := a.2.2.2
/-- a cut: locals, stack, what is known (its first numbers are those of the method's beginning), what falls -/
abbrev An : Type := List (Nat × AV) × (List AV × (Kn × (Lf × Int)))
abbrev An.lv (a : An) : List (Nat × AV) := a.1
abbrev An.st (a : An) : List AV := a.2.1
abbrev An.kn (a : An) : Kn := a.2.2.1
abbrev An.mu (a : An) : Lf × Int := a.2.2.2
/-- an end: the answer, what is known -/
abbrev Al : Type := List AV × Kn
/-- a contract: arguments, what is known before; ends; what is written, and not below what; cuts; calls walked in place; the most of what falls; hints; the ring that it is of (its least number; 0: none), what falls there -/
abbrev Ct : Type := List AV × (Kn × (List Al × (BT Unit × (List (Nat × AV) × (BT (List An) × (BT Nat × (Int × (BT (List (Nat × (Nat × Nat))) × (Nat × (Lf × Int))))))))))
abbrev Ct.ar (a : Ct) : List AV := a.1
abbrev Ct.kn (a : Ct) : Kn := a.2.1
abbrev Ct.al (a : Ct) : List Al := a.2.2.1
abbrev Ct.w (a : Ct) : BT Unit := a.2.2.2.1
abbrev Ct.lw (a : Ct) : List (Nat × AV) := a.2.2.2.2.1
abbrev Ct.cut (a : Ct) : BT (List An) := a.2.2.2.2.2.1
abbrev Ct.inl (a : Ct) : BT Nat := a.2.2.2.2.2.2.1
abbrev Ct.big (a : Ct) : Int := a.2.2.2.2.2.2.2.1
abbrev Ct.hint (a : Ct) : BT (List (Nat × (Nat × Nat))) := a.2.2.2.2.2.2.2.2.1
abbrev Ct.rg (a : Ct) : Nat × (Lf × Int) := a.2.2.2.2.2.2.2.2.2
/-- tables; what J says; hints that J gives; contracts; calls; rooms -/
abbrev Gx : Type := Gl × (Pl × ((Nat × (Nat × Nat) → Fm → Sy → Option Sy) × ((BT Ct) × ((BT (Nat × (Nat × Bool))) × ((BT (Nat × (Nat × (Nat × (Nat × Nat))))) × (Nat → Nat → Bool))))))
abbrev Gx.g (a : Gx) : Gl := a.1
abbrev Gx.P (a : Gx) : Pl := a.2.1
abbrev Gx.hx (a : Gx) : Nat × (Nat × Nat) → Fm → Sy → Option Sy := a.2.2.1
abbrev Gx.ct (a : Gx) : (BT Ct) := a.2.2.2.1
abbrev Gx.call (a : Gx) : (BT (Nat × (Nat × Bool))) := a.2.2.2.2.1
abbrev Gx.room (a : Gx) : (BT (Nat × (Nat × (Nat × (Nat × Nat))))) := a.2.2.2.2.2.1
/-- the rows that a tag speaks of -/
abbrev Gx.tr (a : Gx) : Nat → Nat → Bool := a.2.2.2.2.2.2
def isS {α : Type} (o : Option α) : Bool := match o with
  | some _ => true
  | none => false
/-- may this place be written: by its key, and not below -/
def Ct.ws (c : Ct) (G : Gl) (s : Sy) (k : Nat) (p : AV) : Bool := (match G.ka.get k with
  | some _ => isS (c.w.get (k * 1024 + 1023))
  | none => match p with
    | .inr (.inl (.ofNat j)) => isS (c.w.get (k * 1024 + j))
    | _ => false) && c.lw.all fun e => !(Nat.beq e.1 k) || leq s (tlin (-1) (nf s p).1 (nf s e.2).1) ((nf s p).2 - (nf s e.2).2)
def Ct.wa (c : Ct) (G : Gl) (k : Nat) : Bool := (match G.ka.get k with
  | some _ => isS (c.w.get (k * 1024 + 1023))
  | none => false) && c.lw.all fun e => !(Nat.beq e.1 k)
/-- the places that may be written, ρ being the numbers of the beginning -/
def Ct.wp (c : Ct) (G : Gl) (ρ : List Int) (k j : Nat) : Prop := isS (c.w.get (G.key k j)) = true ∧ ∀ e ∈ c.lw, e.1 = k → ∀ x, ev ρ e.2 = some x → x ≤ (j : Int)
/-- numbers as values -/
def ids (i : Nat) : List Bool → List AV
  | [] => []
  | b :: r => avn b i 0 :: ids (i + 1) r
/-- the numbers are of their kinds -/
def Tp (ρ : List Int) (i : Nat) : List Bool → Prop
  | [] => True
  | b :: r => (∃ x, ρ[i]? = some x ∧ ((b = true ∧ ∃ y : Int64, x = y.toInt) ∨ (b = false ∧ ∃ y : Int32, x = y.toInt))) ∧ Tp ρ (i + 1) r
/-- what is known holds -/
def Ko (J : Jt) (a : Kn) (ρ : List Int) (σ : zS) : Prop := Ok J a.sy ρ σ ∧ Tp ρ 0 a.ks
/-- what falls: less than at the beginning, and not below 0 -/
def falls (s : Sy) (th : List AV) (mu0 mu : Lf × Int) : Bool := match tth s th mu.1 with
  | some (g, k) => leq s (tlin (-1) mu0.1 g) (mu0.2 - mu.2 - k - 1) && leq s (tlin (-1) g []) (mu.2 + k)
  | none => false
/-- the walk has come to a cut -/
def arrive (ks : List Bool) (s : Sy) (lv : List (Nat × AV)) (st : List AV) (mu0 : Lf × Int) (a : An) : Bool :=
  match mtv s lv a.lv (ids 0 ks) with
  | some t1 => match mtl s a.st st t1 with
    | some t2 => match mta s a.kn t2 with
      | some th => falls s th mu0 a.mu
      | none => false
    | none => false
  | none => false
theorem ids_len : ∀ {ks : List Bool} {i : Nat}, (ids i ks).length = ks.length
  | [], _ => rfl
  | _ :: r, i => by simp [ids, ids_len (ks := r)]
theorem Tp.mono {ρ ρ' : List Int} (h : Pre ρ ρ') : ∀ {ks : List Bool} {i : Nat}, Tp ρ i ks → Tp ρ' i ks
  | [], _, _ => trivial
  | _ :: _, _, ⟨⟨x, h1, h2⟩, h3⟩ => ⟨⟨x, h.at h1, h2⟩, Tp.mono h h3⟩
theorem ids_df {ρ : List Int} : ∀ {ks : List Bool} {i : Nat}, Tp ρ i ks → Df ρ (ids i ks)
  | [], _, _ => fun a ha => by cases ha
  | b :: r, i, ⟨⟨x, h1, h2⟩, h3⟩ => by
    intro a ha
    rcases List.mem_cons.mp ha with rfl | ha
    · have e : ev ρ (avn b i 0) = some x := by rw [avn_ev h1]; exact congrArg some (by omega)
      rcases h2 with ⟨rfl, y, hy⟩ | ⟨rfl, y, hy⟩
      · exact Or.inr ⟨rfl, y, by rw [e, hy]⟩
      · exact Or.inl ⟨rfl, y, by rw [e, hy]⟩
    · exact ids_df h3 a ha
theorem ids_vals {ρ : List Int} : ∀ {ks : List Bool} {i : Nat}, Tp ρ i ks → vals ρ (ids i ks) = (ρ.drop i).take ks.length
  | [], _, _ => by simp [ids, vals]
  | b :: r, i, ⟨⟨x, h1, _⟩, h3⟩ => by
    have ih := ids_vals h3
    have hi : i < ρ.length := (List.getElem?_eq_some_iff.mp h1).1
    have hx : ρ[i] = x := (List.getElem?_eq_some_iff.mp h1).2
    have e : ev ρ (avn b i 0) = some x := by rw [avn_ev h1]; exact congrArg some (by omega)
    have d : ρ.drop i = x :: ρ.drop (i + 1) := by rw [List.drop_eq_getElem_cons hi, hx]
    simp only [ids, vals, List.map_cons] at ih ⊢
    rw [d, e]
    simp only [List.length_cons, List.take_succ_cons, Option.getD_some]
    rw [← ih]
theorem ids_pre {ρ0 ρ : List Int} {ks : List Bool} (h : Pre ρ0 ρ) (hn : ρ0.length = ks.length) (ht : Tp ρ0 0 ks) : vals ρ (ids 0 ks) = ρ0 := by
  rw [ids_vals (ht.mono h)]
  obtain ⟨t, rfl⟩ := h
  simp [← hn]
/-- kinds of what stands for the numbers -/
theorem tp_of {ρ : List Int} : ∀ {th pre : List AV} {ks : List Bool}, Df ρ (pre ++ th) → ((th.zip ks).all fun e => bif e.2 then e.1.isL else e.1.isI) = true → th.length = ks.length → Tp (vals ρ (pre ++ th)) pre.length ks
  | [], _, [], _, _, _ => trivial
  | a :: th, pre, b :: ks, hd, hk, hn => by
    simp only [List.zip_cons_cons, List.all_cons, Bool.and_eq_true] at hk
    have ha : (pre ++ a :: th)[pre.length]? = some a := by simp
    obtain ⟨x, hx⟩ := hd.ev ha
    refine ⟨⟨x, vals_at ha hx, ?_⟩, ?_⟩
    · cases b with
      | true =>
        rcases hd a (List.mem_of_getElem? ha) with ⟨q, _⟩ | ⟨q, y, hy⟩
        · exact (isI_L q hk.1).elim
        · exact Or.inl ⟨rfl, y, Option.some.inj (hx.symm.trans hy)⟩
      | false =>
        rcases hd a (List.mem_of_getElem? ha) with ⟨q, y, hy⟩ | ⟨q, _⟩
        · exact Or.inr ⟨rfl, y, Option.some.inj (hx.symm.trans hy)⟩
        · exact (isI_L hk.1 q).elim
    · have e : pre ++ a :: th = (pre ++ [a]) ++ th := by simp
      rw [e] at hd ⊢
      have := tp_of (pre := pre ++ [a]) hd hk.2 (by simpa using hn)
      simpa using this
  | [], _, _ :: _, _, _, hn => by simp at hn
  | _ :: _, _, [], _, _, hn => by simp at hn
theorem mtk_tp {ρ : List Int} {th : List AV} {ks : List Bool} (hd : Df ρ th) (hk : mtk th ks = true) : Tp (vals ρ th) 0 ks := by
  simp only [mtk, Bool.and_eq_true] at hk
  exact tp_of (pre := []) hd hk.2 (Nat.eq_of_beq_eq_true hk.1)
section W8
variable {J : Jt} {s : Sy} {ρ : List Int} {σ : zS}
theorem falls_ok (h : Ok J s ρ σ) {th : List AV} {mu0 mu : Lf × Int} {M : Int} (hd : Df ρ th) (hf : falls s th mu0 mu = true) (hM : tvo ρ mu0.1 = some M) : ∃ v, tvo (vals ρ th) mu.1 = some v ∧ 0 ≤ v + mu.2 ∧ v + mu.2 < M + mu0.2 := by
  unfold falls at hf
  split at hf
  · rename_i g k hg
    rw [Bool.and_eq_true] at hf
    obtain ⟨u, h1, h2⟩ := tth_ok h hd hg
    have a1 := leq_ok h hf.1 (tlin_ok (w := -1) hM h1)
    have a2 := leq_ok h hf.2 (neg_tvo h1)
    exact ⟨_, h2, by omega, by omega⟩
  · cases hf
theorem arrive_ok (h : Ok J s ρ σ) {ks : List Bool} {ρ0 : List Int} {lv : List (Nat × AV)} {st : List AV} {l : List (Nat × Value)} {v : List Value} {mu0 : Lf × Int} {a : An} {M : Int} (hp : Pre ρ0 ρ) (hn : ρ0.length = ks.length) (ht : Tp ρ0 0 ks) (hl : Rl ρ lv l) (hs : Rs ρ st v) (ha : arrive ks s lv st mu0 a = true) (hM : tvo ρ mu0.1 = some M) : ∃ (ρ' : List Int) (l' : List (Nat × Value)) (q : List Nat) (m : Int), lv_pick l q = l' ∧ Pre ρ0 ρ' ∧ Ko J a.kn ρ' σ ∧ Rl ρ' a.lv l' ∧ Rs ρ' a.st v ∧ tvo ρ' a.mu.1 = some m ∧ 0 ≤ m + a.mu.2 ∧ m + a.mu.2 < M + mu0.2 := by
  unfold arrive at ha
  have hd0 : Df ρ (ids 0 ks) := ids_df (ht.mono hp)
  split at ha
  · rename_i t1 e1
    obtain ⟨q, l', k1, d1, x1, r1⟩ := mtv_ok h hl e1 hd0
    split at ha
    · rename_i t2 e2
      obtain ⟨d2, x2, r2⟩ := mtl_ok h e2 d1 hs
      split at ha
      · rename_i th e3
        obtain ⟨d3, x3, k3, o3⟩ := mta_ok h e3 d2
        obtain ⟨m, m1, m2, m3⟩ := falls_ok h d3 ha hM
        have hpre : Pre ρ0 (vals ρ th) := by
          have := ((x1.tr x2).tr x3).pre (ρ := ρ)
          rw [ids_pre hp hn ht] at this
          exact this
        exact ⟨vals ρ th, l', q, m, k1, hpre, ⟨o3, mtk_tp d3 k3⟩, r1.mono (x2.tr x3).pre, r2.mono x3.pre, m1, m2, m3⟩
      · cases ha
    · cases ha
  · cases ha
end W8
end
