noncomputable section
/-! ===== J is kept ===== -/
theorem wf_row {T : Jx} (h : T.wf = true) {r : Nat} {R : Rl1} (hR : T.rs[r]? = some R) : r < 100 ∧ ∀ a ∈ R.2.1, ∃ n, T.rl.get a.1 = some (r, n) := by
  unfold Jx.wf at h
  rw [Bool.and_eq_true] at h
  have hlt : r < T.rs.length := (List.getElem?_eq_some_iff.mp hR).1
  have hle := Nat.le_of_ble_eq_true h.1
  refine ⟨by omega, fun a ha => ?_⟩
  have h1 := List.all_eq_true.mp h.2 (R, r) (List.mem_zipIdx_iff_getElem?.mpr hR)
  have h2 := List.all_eq_true.mp h1 a ha
  split at h2
  · rename_i r' n hg
    have := Nat.eq_of_beq_eq_true h2
    subst this
    exact ⟨n, hg⟩
  · cases h2
section J14
variable {s : Sy} {ρ : List Int} {σ : zS} {T : Jx} {G : Gl} {S : Jt} {W : Sw}
theorem cell_off {σ σ' : zS} {k j j' : Nat} {a : Nat × Bool} (hoff : ∀ k' j', ¬ (k' = k ∧ j' = j) → σ'.1 k' j' = σ.1 k' j' ∧ σ'.2 k' j' = σ.2 k' j') (h : ¬ (a.1 = k ∧ j' = j)) : cell σ' a j' = cell σ a j' := by
  obtain ⟨h1, h2⟩ := hoff a.1 j' h
  unfold cell
  rw [h1, h2]
theorem wrel_ok {J : Jt} (hwf : T.wf = true) {k j : Nat} {p : AV} {me : List (Nat × (AV × AV))} {hl hl' : List (Nat × AV)} {H H' : List (Nat × Int)} {σ' : zS} (h : Ok J s ρ σ) (hm : Ok (fun _ _ => True) (s.nx, (s.env, (me, (s.cg, (s.df, (s.fa, [])))))) ρ σ') (hp : ev ρ p = some (j : Int)) (hoff : ∀ k' j', ¬ (k' = k ∧ j' = j) → σ'.1 k' j' = σ.1 k' j' ∧ σ'.2 k' j' = σ.2 k' j') (hR : ∀ r R, T.rs[r]? = some R → ∀ j, j < R.1 → lk H r ≠ some ((j : Nat) : Int) → ∃ b ∈ R.2.2, inB1 σ j R.2.1 b) (hH : ∀ t, t < 100 → lk H' t = lk H t) (hHl : Hl ρ hl H') (hw : T.wrel s k p me hl = some hl') : ∃ H'', Hl ρ hl' H'' ∧ (∀ r R, T.rs[r]? = some R → ∀ j, j < R.1 → lk H'' r ≠ some ((j : Nat) : Int) → ∃ b ∈ R.2.2, inB1 σ' j R.2.1 b) ∧ (∀ t, 100 ≤ t → lk H'' t = lk H' t) := by
  have same : ∀ r R, T.rs[r]? = some R → ∀ j', j' < R.1 → lk H r ≠ some ((j' : Nat) : Int) → (∀ a ∈ R.2.1, ¬ (a.1 = k ∧ j' = j)) → ∃ b ∈ R.2.2, inB1 σ' j' R.2.1 b := by
    intro r R hr j' hj' ho hne
    obtain ⟨b, b1, b2⟩ := hR r R hr j' hj' ho
    exact ⟨b, b1, inB1_eq (fun a ha => cell_off hoff (hne a ha)) b2⟩
  unfold Jx.wrel at hw
  split at hw
  · rename_i hrl
    cases Option.some.inj hw
    refine ⟨H', hHl, fun r R hr j' hj' ho => ?_, fun t _ => rfl⟩
    obtain ⟨hr1, hr2⟩ := wf_row hwf hr
    refine same r R hr j' hj' (by rw [← hH r hr1]; exact ho) (fun a ha q => ?_)
    obtain ⟨n, hn⟩ := hr2 a ha
    rw [q.1, hrl] at hn
    cases hn
  · rename_i r0 n0 hrl
    split at hw
    · cases hw
    · rename_i R0 hR0
      cases hc : Nat.blt r0 100 && opq (lk hl r0) p with
      | false => rw [hc] at hw; cases hw
      | true =>
        rw [hc] at hw
        simp only [cond_true] at hw
        rw [Bool.and_eq_true] at hc
        have hr0 : r0 < 100 := Nat.le_of_ble_eq_true hc.1
        have hopen : ∀ x, lk H r0 = some x → x = (j : Int) := by
          intro x hx
          rw [← hH r0 hr0] at hx
          rcases hHl.lkp (t := r0) with ⟨_, q2⟩ | ⟨a, y, q1, q2, q3⟩
          · rw [q2] at hx; cases hx
          · have c2 := hc.2
            rw [q1] at c2
            have := AV.eq_of c2
            subst this
            rw [q2] at hx
            cases Option.some.inj hx
            exact Option.some.inj (q3.symm.trans hp)
        have others : ∀ r R, T.rs[r]? = some R → r ≠ r0 → ∀ j', j' < R.1 → lk H r ≠ some ((j' : Nat) : Int) → ∃ b ∈ R.2.2, inB1 σ' j' R.2.1 b := by
          intro r R hr hne j' hj' ho
          obtain ⟨hr1, hr2⟩ := wf_row hwf hr
          refine same r R hr j' hj' ho (fun a ha q => ?_)
          obtain ⟨n, hn⟩ := hr2 a ha
          rw [q.1, hrl] at hn
          cases Option.some.inj hn
          exact hne rfl
        have mine : ∀ R, T.rs[r0]? = some R → ∀ j', j' < R.1 → j' ≠ j → ∃ b ∈ R.2.2, inB1 σ' j' R.2.1 b := by
          intro R hr j' hj' hne
          refine same r0 R hr j' hj' (fun q => ?_) (fun a _ q => hne q.2)
          have := hopen _ q
          exact hne (by omega)
        cases hf : R0.2.2.any (fullIn s me p R0.2.1) with
        | true =>
          rw [hf] at hw
          cases Option.some.inj hw
          refine ⟨hdel r0 H', hHl.del, fun r R hr j' hj' ho => ?_, fun t ht => ?_⟩
          · by_cases e : r = r0
            · subst e
              by_cases ej : j' = j
              · subst ej
                rw [hR0] at hr
                cases Option.some.inj hr
                obtain ⟨b, b1, b2⟩ := List.any_eq_true.mp hf
                exact ⟨b, b1, fullIn_ok h hm hp b2⟩
              · exact mine R hr j' hj' ej
            · rw [lk_hdel, if_neg e, hH r (wf_row hwf hr).1] at ho
              exact others r R hr e j' hj' ho
          · rw [lk_hdel, if_neg (by omega)]
        | false =>
          rw [hf] at hw
          cases Option.some.inj hw
          refine ⟨hset r0 (j : Int) H', hHl.set hp, fun r R hr j' hj' ho => ?_, fun t ht => ?_⟩
          · rw [lk_hset] at ho
            by_cases e : r = r0
            · subst e
              rw [if_pos rfl] at ho
              exact mine R hr j' hj' (fun q => ho (by rw [q]))
            · rw [if_neg e, hH r (wf_row hwf hr).1] at ho
              exact others r R hr e j' hj' ho
          · rw [lk_hset, if_neg (by omega)]
theorem wi_ok (hwf : T.wf = true) (hS : SOk T G S W) {k j : Nat} {p v : AV} {x : Int32} {s' : Sy} (h : Ok (Jf T G S) s ρ σ) (hp : ev ρ p = some (j : Int)) (hb : InB G k j) (hv : v.isI = true) (he : ev ρ v = some x.toInt) (hw : T.wi G W s k p v = some s') : Ok (Jf T G S) s' ρ (zI σ k j x) := by
  unfold Jx.wi at hw
  split at hw
  · cases hw
  · rename_i L hL
    cases hc : L.all (fitsD s v) with
    | false => rw [hc] at hw; cases hw
    | true =>
      rw [hc] at hw
      simp only [cond_true] at hw
      split at hw
      · rename_i hl hhl
        split at hw
        · rename_i hl' hhl'
          cases Option.some.inj hw
          obtain ⟨H, i1, i2⟩ := h.inv
          obtain ⟨H', x1, x2, x3⟩ := hS.1 s ρ σ k p v j x hl H h hp hb hv he hhl i1 i2
          have hm : Ok (fun _ _ => True) (s.wr k p v []) ρ (zI σ k j x) := wrI_ok (h.any (fun _ _ => trivial)) hp hv he ⟨[], trivial, trivial⟩
          have hoff : ∀ k' j', ¬ (k' = k ∧ j' = j) → (zI σ k j x).1 k' j' = σ.1 k' j' ∧ (zI σ k j x).2 k' j' = σ.2 k' j' := fun k' j' hne => ⟨zI_ne hne, rfl⟩
          obtain ⟨H'', y1, y2, y3⟩ := wrel_ok hwf h hm hp hoff i2.2.1 x3 x1 hhl'
          refine wrI_ok h hp hv he ⟨H'', y1, fun k' j' hb' => ?_, y2, hS.2.2.2.2 H' H'' _ y3 x2⟩
          by_cases e : k' = k ∧ j' = j
          · obtain ⟨rfl, rfl⟩ := e
            rw [zI_at]
            exact fitsD_ok h (List.all_eq_true.mp hc _ (bda_ok h hp hL)) he (dom_i h hv he)
          · rw [zI_ne e]
            exact i2.1 k' j' hb'
        · cases hw
      · cases hw
theorem wl_ok (hwf : T.wf = true) (hS : SOk T G S W) {k j : Nat} {p v : AV} {x : Int64} {s' : Sy} (h : Ok (Jf T G S) s ρ σ) (hp : ev ρ p = some (j : Int)) (hb : InB G k j) (hv : v.isL = true) (he : ev ρ v = some x.toInt) (hw : T.wl W s k p v = some s') : Ok (Jf T G S) s' ρ (zJ σ k j x) := by
  unfold Jx.wl at hw
  split at hw
  · rename_i hl hhl
    split at hw
    · rename_i hl' hhl'
      cases Option.some.inj hw
      obtain ⟨H, i1, i2⟩ := h.inv
      obtain ⟨H', x1, x2, x3⟩ := hS.2.1 s ρ σ k p v j x hl H h hp hb hv he hhl i1 i2
      have hm : Ok (fun _ _ => True) (s.wr k p v []) ρ (zJ σ k j x) := wrL_ok (h.any (fun _ _ => trivial)) hp hv he ⟨[], trivial, trivial⟩
      have hoff : ∀ k' j', ¬ (k' = k ∧ j' = j) → (zJ σ k j x).1 k' j' = σ.1 k' j' ∧ (zJ σ k j x).2 k' j' = σ.2 k' j' := fun k' j' hne => ⟨rfl, zJ_ne hne⟩
      obtain ⟨H'', y1, y2, y3⟩ := wrel_ok hwf h hm hp hoff i2.2.1 x3 x1 hhl'
      exact wrL_ok h hp hv he ⟨H'', y1, fun k' j' hb' => i2.1 k' j' hb', y2, hS.2.2.2.2 H' H'' _ y3 x2⟩
    · cases hw
  · cases hw
theorem fr_ok (hwf : T.wf = true) (hS : SOk T G S W) {H : List (Nat × Int)} {k : Nat} {f : Nat → Int64} (hf : T.fr W k = true) (h : Jf T G S H σ) : Jf T G S H (zJr σ k f) := by
  unfold Jx.fr at hf
  rw [Bool.and_eq_true] at hf
  refine ⟨fun k' j' hb => h.1 k' j' hb, fun r R hr j' hj' ho => ?_, hS.2.2.1 H σ k f hf.2 h.2.2⟩
  obtain ⟨b, b1, b2⟩ := h.2.1 r R hr j' hj' ho
  refine ⟨b, b1, inB1_eq (fun a ha => ?_) b2⟩
  obtain ⟨n, hn⟩ := (wf_row hwf hr).2 a ha
  have hne : a.1 ≠ k := by
    intro q
    have h1 := hf.1
    rw [← q, hn] at h1
    cases h1
  unfold cell
  rw [zJr_ne hne]
  rfl
theorem cp_ok (hwf : T.wf = true) (hS : SOk T G S W) {H : List (Nat × Int)} {k0 k1 z0 z1 : Nat} {f : Nat → Int32} (hc : T.cp W k0 k1 = true) (h0 : G.ka.get k0 = some (100, z0)) (h1 : G.ka.get k1 = some (100, z1)) (h : Jf T G S H σ) (hf : ∀ j, j < z1 → (∃ i, i < z0 ∧ f j = σ.1 k0 i) ∨ f j = σ.1 k1 j) : Jf T G S H (zIr σ k1 f) := by
  unfold Jx.cp at hc
  simp only [Bool.and_eq_true] at hc
  obtain ⟨⟨⟨c1, c2⟩, c3, c4⟩, c5⟩ := hc
  have no : ∀ {α : Type} {o : Option α}, (!(isS o)) = true → o = none := by
    intro α o ho
    cases o with
    | none => rfl
    | some _ => cases ho
  refine ⟨fun k' j' hb => ?_, fun r R hr j' hj' ho => ?_, hS.2.2.2.1 H σ k1 f c4 h.2.2⟩
  · by_cases e : k' = k1
    · subst e
      have hz : j' < z1 := by
        rcases hb with ⟨q, _⟩ | ⟨kd, z, q, hj⟩
        · rw [h1] at q; cases q
        · rw [h1] at q; cases Option.some.inj q; exact hj
      have e1 : (zIr σ k' f).1 k' j' = f j' := by simp [zIr, xup]
      have e2 : T.bd G k' j' = (T.ai.get k').getD T32 := by unfold Jx.bd; rw [h1, no c3]
      rw [e1]
      rcases hf j' hz with ⟨i, hi, q⟩ | q
      · rw [q, e2]
        have := h.1 k0 i (Or.inr ⟨100, z0, h0, hi⟩)
        have e3 : T.bd G k0 i = (T.ai.get k0).getD T32 := by unfold Jx.bd; rw [h0, no c2]
        rw [e3] at this
        exact dsub_in c5 this
      · rw [q]
        exact h.1 k' j' hb
    · rw [zIr_ne e]
      exact h.1 k' j' hb
  · obtain ⟨b, b1, b2⟩ := h.2.1 r R hr j' hj' ho
    refine ⟨b, b1, inB1_eq (fun a ha => ?_) b2⟩
    have : a.1 ≠ k1 := fun q => by
      obtain ⟨n, hn⟩ := (wf_row hwf hr).2 a ha
      rw [q, no c1] at hn
      cases hn
    unfold cell
    rw [zIr_ne this]
    rfl
theorem P_ok (hwf : T.wf = true) (hS : SOk T G S W) : POk G (T.P G W) (Jf T G S) :=
  ⟨fun _ _ _ _ _ _ h hp hb => dm_ok h hp hb, fun _ _ _ _ _ _ h hp _ => dl_ok h hp, fun _ _ _ _ _ _ _ _ _ h hp hb hv he hw => wi_ok hwf hS h hp hb hv he hw, fun _ _ _ _ _ _ _ _ _ h hp hb hv he hw => wl_ok hwf hS h hp hb hv he hw, fun _ _ _ _ hf h => fr_ok hwf hS hf h, fun _ _ _ _ _ _ _ hc h0 h1 h hf => cp_ok hwf hS hc h0 h1 h hf⟩
end J14
/-- more of the numbers l, by rows that go together -/
def avid : AV → Option Nat
  | .inl (id, _) => some id
  | .inr (.inr (.inl (id, _))) => some id
  | _ => none
def memN (i : Nat) : List Nat → Bool
  | [] => false
  | j :: r => Nat.beq i j || memN i r
def Jx.tgl (T : Jx) (l : List Nat) : List (Nat × (AV × AV)) → Sy → Option Sy
  | [], s => some s
  | e :: r, s => match (match avid e.2.2 with
      | some i => bif memN i l && (e.2.2.isI || e.2.2.isL) then T.rdom s e.1 e.2.1 e.2.2.isL else none
      | none => none) with
    | some d => match s.refd e.2.2 d with
      | some s' => T.tgl l r s'
      | none => none
    | none => T.tgl l r s
/-- hint 1: more of a value of the stack -/
def Jx.tg (T : Jx) (f : Fm) (i : Nat) (s : Sy) : Option Sy := match f.st[i]? with
  | some a => match avid a with
    | some id => T.tgl (id :: (nf s a).1.map (·.1)) s.me s
    | none => some s
  | none => some s
theorem tgl_ok {T : Jx} {G : Gl} {S : Jt} {ρ : List Int} {σ : zS} {l : List Nat} : ∀ {es : List (Nat × (AV × AV))} {s : Sy}, Ok (Jf T G S) s ρ σ → (∀ e ∈ es, Mf ρ σ e) → ∃ s', T.tgl l es s = some s' ∧ Ok (Jf T G S) s' ρ σ
  | [], s, h, _ => ⟨s, rfl, h⟩
  | e :: r, s, h, hm => by
    have rest := fun e' he' => hm e' (List.mem_cons_of_mem e he')
    unfold Jx.tgl
    split
    · rename_i d hd
      split at hd
      · rename_i i _
        cases hc : memN i l && (e.2.2.isI || e.2.2.isL) with
        | false => rw [hc] at hd; cases hd
        | true =>
          rw [hc] at hd
          simp only [cond_true] at hd
          rw [Bool.and_eq_true] at hc
          have he := hm e (List.mem_cons_self ..)
          obtain ⟨j, hj, _⟩ := he
          have hk : kfit e.2.2.isL e.2.2 = true := by
            unfold kfit
            cases hl : e.2.2.isL with
            | true => rfl
            | false =>
              have := hc.2
              rw [hl, Bool.or_false] at this
              exact this
          obtain ⟨g1, g2, g3⟩ := (hm e (List.mem_cons_self ..) : Mf ρ σ (e.1, (e.2.1, e.2.2))).cell hj hk
          obtain ⟨s', q1, q2⟩ := refd_ok h g1 (cell_dom h g1 g2 g3) (rdom_ok h hj hd)
          rw [q1]
          exact tgl_ok q2 rest
      · cases hd
    · exact tgl_ok h rest
theorem tg_ok {T : Jx} {G : Gl} {S : Jt} {s : Sy} {ρ : List Int} {σ : zS} {f : Fm} {i : Nat} (h : Ok (Jf T G S) s ρ σ) : ∃ s', T.tg f i s = some s' ∧ Ok (Jf T G S) s' ρ σ := by
  unfold Jx.tg
  split
  · split
    · exact tgl_ok h h.me
    · exact ⟨s, rfl, h⟩
  · exact ⟨s, rfl, h⟩
end
