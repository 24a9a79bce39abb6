noncomputable section
/-! ===== WHAT ELSE HOLDS, 28: rows of longs of both sides that hold the same ===== -/
def lS (t k1 b1 k2 b2 n : Nat) (H : List (Nat × Int)) (σ : zS) : Prop :=
  (lk H t = none → ∀ i : Nat, i < n → σ.2 k1 (b1 + i) = σ.2 k2 (b2 + i)) ∧
  ∀ z, lk H t = some z → ∃ j : Nat, z = (j : Int) ∧ j < n ∧ ∀ i : Nat, i < n → i ≠ j → σ.2 k1 (b1 + i) = σ.2 k2 (b2 + i)
def lth (s : Sy) (k : Nat) (r : AV) : Option AV := match mget s.me k (pl s r) with
  | some w => bif w.isL && eqA s r (pl s r) then some w else none
  | none => none
def lwH (t b1 k2 b2 n : Nat) (s : Sy) (hl : List (Nat × AV)) (p v : AV) : Option (List (Nat × AV)) :=
  bif leAV s p (.c ((b1 : Int) - 1)) || leAV s (.c ((b1 : Int) + n)) p then some hl
  else bif leAV s (.c (b1 : Int)) p && leAV s p (.c ((b1 : Int) + n - 1)) then (match lk hl t with
    | none => match lth s k2 (shA p ((b2 : Int) - b1)) with
      | some w => bif eqA s v w then some hl else some (hset t (shA p (-(b1 : Int))) hl)
      | none => some (hset t (shA p (-(b1 : Int))) hl)
    | some x => bif eqA s x (shA p (-(b1 : Int))) then some hl else none)
  else none
def lwM (t k1 b1 b2 n : Nat) (s : Sy) (hl : List (Nat × AV)) (p v : AV) : Option (List (Nat × AV)) :=
  bif leAV s p (.c ((b2 : Int) - 1)) || leAV s (.c ((b2 : Int) + n)) p then some hl
  else bif leAV s (.c (b2 : Int)) p && leAV s p (.c ((b2 : Int) + n - 1)) then (match lth s k1 (shA p ((b1 : Int) - b2)) with
    | some w => bif eqA s v w then (match lk hl t with
      | none => some hl
      | some x => bif eqA s x (shA p (-(b2 : Int))) then some (hdel t hl) else none) else none
    | none => none)
  else none
section C28
variable {J : Jt} {s : Sy} {ρ : List Int} {σ : zS}
theorem me_atL {k j : Nat} {p w : AV} (ho : Ok J s ρ σ) (hm : mget s.me k p = some w) (hp : ev ρ p = some (j : Int)) (hw : w.isL = true) : ev ρ w = some (σ.2 k j).toInt := by
  obtain ⟨j', e1, e2⟩ := ho.me _ (mget_mem hm)
  have ej : j' = j := by
    have := Option.some.inj (e1.symm.trans hp)
    omega
  subst ej
  rcases e2 with ⟨q, _⟩ | ⟨_, e2⟩
  · exact (isI_L q hw).elim
  · exact e2
theorem lth_ok (ho : Ok J s ρ σ) {k j : Nat} {r w : AV} (h : lth s k r = some w) (hr : ev ρ r = some (j : Int)) : w.isL = true ∧ ev ρ w = some (σ.2 k j).toInt := by
  unfold lth at h
  split at h
  · rename_i w' hm
    cases hc : w'.isL && eqA s r (pl s r) with
    | false => rw [hc] at h; cases h
    | true =>
      rw [hc] at h
      cases Option.some.inj h
      rw [Bool.and_eq_true] at hc
      obtain ⟨j', q1, q2⟩ := ho.me _ (mget_mem hm)
      have e := eqA_ok ho hc.2 hr q1
      have ej : j' = j := by omega
      subst ej
      exact ⟨hc.1, me_atL ho hm q1 hc.1⟩
  · cases h
theorem lwH_ok {t k1 b1 k2 b2 n j : Nat} {p v : AV} {x : Int64} {hl hl' : List (Nat × AV)} {H : List (Nat × Int)} (hk : k1 ≠ k2) (ho : Ok J s ρ σ) (hp : ev ρ p = some (j : Int)) (hx : ev ρ v = some x.toInt) (hw : lwH t b1 k2 b2 n s hl p v = some hl') (hh : Hl ρ hl H) (hS : lS t k1 b1 k2 b2 n H σ) : ∃ H', Hl ρ hl' H' ∧ lS t k1 b1 k2 b2 n H' (zJ σ k1 j x) ∧ ∀ u, u ≠ t → lk H' u = lk H u := by
  have base : ∀ i : Nat, b1 + i ≠ j → (zJ σ k1 j x).2 k1 (b1 + i) = σ.2 k1 (b1 + i) := fun i h => zJ_ne (by rintro ⟨_, q⟩; exact h q)
  have row2 : (zJ σ k1 j x).2 k2 = σ.2 k2 := zJ_row hk.symm
  unfold lwH at hw
  cases e1 : leAV s p (.c ((b1 : Int) - 1)) || leAV s (.c ((b1 : Int) + n)) p with
  | true =>
    rw [e1] at hw
    cases Option.some.inj hw
    have out : ∀ i : Nat, i < n → b1 + i ≠ j := by
      intro i hi
      rw [Bool.or_eq_true] at e1
      rcases e1 with e1 | e1
      · have := leAV_ok ho e1 hp (y := (b1 : Int) - 1) rfl
        omega
      · have := leAV_ok ho e1 (x := (b1 : Int) + n) rfl hp
        omega
    refine ⟨H, hh, ⟨fun q i hi => by rw [base i (out i hi), row2]; exact hS.1 q i hi, fun z q => ?_⟩, fun _ _ => rfl⟩
    obtain ⟨i0, c1, c2, c3⟩ := hS.2 z q
    exact ⟨i0, c1, c2, fun i hi hne => by rw [base i (out i hi), row2]; exact c3 i hi hne⟩
  | false =>
    rw [e1] at hw
    simp only [cond_false] at hw
    cases e2 : leAV s (.c (b1 : Int)) p && leAV s p (.c ((b1 : Int) + n - 1)) with
    | false => rw [e2] at hw; cases hw
    | true =>
      rw [e2] at hw
      simp only [cond_true] at hw
      rw [Bool.and_eq_true] at e2
      have g1 := leAV_ok ho e2.1 (x := (b1 : Int)) rfl hp
      have g2 := leAV_ok ho e2.2 hp (y := (b1 : Int) + n - 1) rfl
      obtain ⟨i0, hi0⟩ : ∃ i0 : Nat, j = b1 + i0 := ⟨j - b1, by omega⟩
      have hlt : i0 < n := by omega
      subst hi0
      have hpa : ev ρ (shA p (-(b1 : Int))) = some (i0 : Int) := (shA_ev hp).trans (congrArg some (by omega))
      have hpr : ev ρ (shA p ((b2 : Int) - b1)) = some ((b2 + i0 : Nat) : Int) := (shA_ev hp).trans (congrArg some (by omega))
      have new : (zJ σ k1 (b1 + i0) x).2 k1 (b1 + i0) = x := zJ_at
      have rest : (∀ i : Nat, i < n → i ≠ i0 → σ.2 k1 (b1 + i) = σ.2 k2 (b2 + i)) → ∀ i : Nat, i < n → i ≠ i0 → (zJ σ k1 (b1 + i0) x).2 k1 (b1 + i) = (zJ σ k1 (b1 + i0) x).2 k2 (b2 + i) := fun h i hi hne => by rw [base i (by omega), row2]; exact h i hi hne
      have opens : lk H t = none → some (hset t (shA p (-(b1 : Int))) hl) = some hl' → ∃ H', Hl ρ hl' H' ∧ lS t k1 b1 k2 b2 n H' (zJ σ k1 (b1 + i0) x) ∧ ∀ u, u ≠ t → lk H' u = lk H u := by
        intro q2 hw
        cases Option.some.inj hw
        refine ⟨hset t (i0 : Int) H, hh.set hpa, ⟨fun q => ?_, fun z q => ?_⟩, fun u u0 => ?_⟩
        · rw [lk_hset, if_pos rfl] at q; cases q
        · rw [lk_hset, if_pos rfl] at q
          cases Option.some.inj q
          exact ⟨i0, rfl, hlt, rest (fun i hi _ => hS.1 q2 i hi)⟩
        · rw [lk_hset, if_neg u0]
      rcases hh.lkp (t := t) with ⟨q1, q2⟩ | ⟨a, z, q1, q2, q3⟩
      · rw [q1] at hw
        have all := hS.1 q2
        cases e3 : lth s k2 (shA p ((b2 : Int) - b1)) with
        | none => rw [e3] at hw; exact opens q2 hw
        | some w =>
          obtain ⟨w1, w2⟩ := lth_ok ho e3 hpr
          rw [e3] at hw
          replace hw : (bif eqA s v w then some hl else some (hset t (shA p (-(b1 : Int))) hl)) = some hl' := hw
          cases e4 : eqA s v w with
          | true =>
            rw [e4] at hw
            cases Option.some.inj hw
            have exw : x = σ.2 k2 (b2 + i0) := Int64.toInt_inj.mp (eqA_ok ho e4 hx w2)
            refine ⟨H, hh, ⟨fun _ i hi => ?_, fun z q => by rw [q2] at q; cases q⟩, fun _ _ => rfl⟩
            by_cases e : i = i0
            · rw [e, new, row2]; exact exw
            · exact rest (fun i hi _ => all i hi) i hi e
          | false => rw [e4] at hw; exact opens q2 hw
      · rw [q1] at hw
        replace hw : (bif eqA s a (shA p (-(b1 : Int))) then some hl else none) = some hl' := hw
        cases e3 : eqA s a (shA p (-(b1 : Int))) with
        | false => rw [e3] at hw; cases hw
        | true =>
          rw [e3] at hw
          cases Option.some.inj hw
          have ez := eqA_ok ho e3 q3 hpa
          obtain ⟨i1, c1, c2, c3⟩ := hS.2 z q2
          have e01 : i1 = i0 := by omega
          subst e01
          exact ⟨H, hh, ⟨fun q => (by rw [q2] at q; cases q), fun z' q => (by rw [q2] at q; cases Option.some.inj q; exact ⟨i1, c1, c2, rest c3⟩)⟩, fun _ _ => rfl⟩
theorem lwM_ok {t k1 b1 k2 b2 n j : Nat} {p v : AV} {x : Int64} {hl hl' : List (Nat × AV)} {H : List (Nat × Int)} (hk : k1 ≠ k2) (ho : Ok J s ρ σ) (hp : ev ρ p = some (j : Int)) (hx : ev ρ v = some x.toInt) (hw : lwM t k1 b1 b2 n s hl p v = some hl') (hh : Hl ρ hl H) (hS : lS t k1 b1 k2 b2 n H σ) : ∃ H', Hl ρ hl' H' ∧ lS t k1 b1 k2 b2 n H' (zJ σ k2 j x) ∧ ∀ u, u ≠ t → lk H' u = lk H u := by
  have base : ∀ i : Nat, b2 + i ≠ j → (zJ σ k2 j x).2 k2 (b2 + i) = σ.2 k2 (b2 + i) := fun i h => zJ_ne (by rintro ⟨_, q⟩; exact h q)
  have row1 : (zJ σ k2 j x).2 k1 = σ.2 k1 := zJ_row hk
  unfold lwM at hw
  cases e1 : leAV s p (.c ((b2 : Int) - 1)) || leAV s (.c ((b2 : Int) + n)) p with
  | true =>
    rw [e1] at hw
    cases Option.some.inj hw
    have out : ∀ i : Nat, i < n → b2 + i ≠ j := by
      intro i hi
      rw [Bool.or_eq_true] at e1
      rcases e1 with e1 | e1
      · have := leAV_ok ho e1 hp (y := (b2 : Int) - 1) rfl
        omega
      · have := leAV_ok ho e1 (x := (b2 : Int) + n) rfl hp
        omega
    refine ⟨H, hh, ⟨fun q i hi => by rw [base i (out i hi), row1]; exact hS.1 q i hi, fun z q => ?_⟩, fun _ _ => rfl⟩
    obtain ⟨i0, c1, c2, c3⟩ := hS.2 z q
    exact ⟨i0, c1, c2, fun i hi hne => by rw [base i (out i hi), row1]; exact c3 i hi hne⟩
  | false =>
    rw [e1] at hw
    simp only [cond_false] at hw
    cases e2 : leAV s (.c (b2 : Int)) p && leAV s p (.c ((b2 : Int) + n - 1)) with
    | false => rw [e2] at hw; cases hw
    | true =>
      rw [e2] at hw
      simp only [cond_true] at hw
      rw [Bool.and_eq_true] at e2
      have g1 := leAV_ok ho e2.1 (x := (b2 : Int)) rfl hp
      have g2 := leAV_ok ho e2.2 hp (y := (b2 : Int) + n - 1) rfl
      obtain ⟨i0, hi0⟩ : ∃ i0 : Nat, j = b2 + i0 := ⟨j - b2, by omega⟩
      have hlt : i0 < n := by omega
      subst hi0
      have hpa : ev ρ (shA p (-(b2 : Int))) = some (i0 : Int) := (shA_ev hp).trans (congrArg some (by omega))
      have hpr : ev ρ (shA p ((b1 : Int) - b2)) = some ((b1 + i0 : Nat) : Int) := (shA_ev hp).trans (congrArg some (by omega))
      have new : (zJ σ k2 (b2 + i0) x).2 k2 (b2 + i0) = x := zJ_at
      have rest : (∀ i : Nat, i < n → i ≠ i0 → σ.2 k1 (b1 + i) = σ.2 k2 (b2 + i)) → ∀ i : Nat, i < n → i ≠ i0 → (zJ σ k2 (b2 + i0) x).2 k1 (b1 + i) = (zJ σ k2 (b2 + i0) x).2 k2 (b2 + i) := fun h i hi hne => by rw [base i (by omega), row1]; exact h i hi hne
      cases e3 : lth s k1 (shA p ((b1 : Int) - b2)) with
      | none => rw [e3] at hw; cases hw
      | some w =>
        obtain ⟨w1, w2⟩ := lth_ok ho e3 hpr
        rw [e3] at hw
        replace hw : (bif eqA s v w then (match lk hl t with
          | none => some hl
          | some x => bif eqA s x (shA p (-(b2 : Int))) then some (hdel t hl) else none) else none) = some hl' := hw
        cases e4 : eqA s v w with
        | false => rw [e4] at hw; cases hw
        | true =>
          rw [e4] at hw
          simp only [cond_true] at hw
          have exw : x = σ.2 k1 (b1 + i0) := Int64.toInt_inj.mp (eqA_ok ho e4 hx w2)
          rcases hh.lkp (t := t) with ⟨q1, q2⟩ | ⟨a, z, q1, q2, q3⟩
          · rw [q1] at hw
            cases Option.some.inj hw
            refine ⟨H, hh, ⟨fun _ i hi => ?_, fun z q => by rw [q2] at q; cases q⟩, fun _ _ => rfl⟩
            by_cases e : i = i0
            · rw [e, new, row1]; exact exw.symm
            · exact rest (fun i hi _ => hS.1 q2 i hi) i hi e
          · rw [q1] at hw
            replace hw : (bif eqA s a (shA p (-(b2 : Int))) then some (hdel t hl) else none) = some hl' := hw
            cases e5 : eqA s a (shA p (-(b2 : Int))) with
            | false => rw [e5] at hw; cases hw
            | true =>
              rw [e5] at hw
              cases Option.some.inj hw
              have ez := eqA_ok ho e5 q3 hpa
              obtain ⟨i1, c1, c2, c3⟩ := hS.2 z q2
              have e01 : i1 = i0 := by omega
              subst e01
              refine ⟨hdel t H, hh.del, ⟨fun _ i hi => ?_, fun z' q => ?_⟩, fun u u0 => ?_⟩
              · by_cases e : i = i1
                · rw [e, new, row1]; exact exw.symm
                · exact rest c3 i hi e
              · rw [lk_hdel, if_pos rfl] at q; cases q
              · rw [lk_hdel, if_neg u0]
end C28
def hsL (t ka ba kb bb n : Nat) : List (Nat × (AV × AV)) → Sy → Sy
  | [], s => s
  | e :: r, s => hsL t ka ba kb bb n r (bif (Nat.beq e.1 ka && e.2.2.isL) && ((leAV s (.c (ba : Int)) e.2.1 && leAV s e.2.1 (.c ((ba : Int) + n - 1))) && ((match lk s.hl t with
      | none => true
      | some x => leAV s (shA x 1) (shA e.2.1 (-(ba : Int))) || leAV s (shA e.2.1 (1 - (ba : Int))) x) && (!(isS (mget s.me kb (pl s (shA e.2.1 ((bb : Int) - ba))))) && eqA s (shA e.2.1 ((bb : Int) - ba)) (pl s (shA e.2.1 ((bb : Int) - ba))))))
    then s.add kb (pl s (shA e.2.1 ((bb : Int) - ba))) e.2.2 else s)
theorem hsL_ok {J : Jt} {ρ : List Int} {σ : zS} {t ka ba kb bb n : Nat} {H : List (Nat × Int)} (hS : ∀ i : Nat, i < n → (∀ z, lk H t = some z → z ≠ (i : Int)) → σ.2 ka (ba + i) = σ.2 kb (bb + i)) : ∀ {es : List (Nat × (AV × AV))} {s : Sy}, Ok J s ρ σ → (∀ e ∈ es, Mf ρ σ e) → Hl ρ s.hl H → Ok J (hsL t ka ba kb bb n es s) ρ σ ∧ (hsL t ka ba kb bb n es s).hl = s.hl
  | [], s, ho, _, _ => ⟨ho, rfl⟩
  | e :: r, s, ho, hes, hh => by
    unfold hsL
    have rest := fun e' he' => hes e' (List.mem_cons_of_mem e he')
    cases hb : (Nat.beq e.1 ka && e.2.2.isL) && ((leAV s (.c (ba : Int)) e.2.1 && leAV s e.2.1 (.c ((ba : Int) + n - 1))) && ((match lk s.hl t with
      | none => true
      | some x => leAV s (shA x 1) (shA e.2.1 (-(ba : Int))) || leAV s (shA e.2.1 (1 - (ba : Int))) x) && (!(isS (mget s.me kb (pl s (shA e.2.1 ((bb : Int) - ba))))) && eqA s (shA e.2.1 ((bb : Int) - ba)) (pl s (shA e.2.1 ((bb : Int) - ba)))))) with
    | false => exact hsL_ok hS ho rest hh
    | true =>
      simp only [cond_true]
      simp only [Bool.and_eq_true] at hb
      obtain ⟨⟨b1, b2⟩, ⟨b3, b4⟩, b5, b6, b7⟩ := hb
      have hk := Nat.eq_of_beq_eq_true b1
      obtain ⟨j, f1, f2⟩ := hes e (List.mem_cons_self ..)
      have f3 : ev ρ e.2.2 = some (σ.2 ka j).toInt := by
        rw [← hk]
        rcases f2 with ⟨q, _⟩ | ⟨_, f2⟩
        · exact (isI_L q b2).elim
        · exact f2
      have g1 := leAV_ok ho b3 (x := (ba : Int)) rfl f1
      have g2 := leAV_ok ho b4 f1 (y := (ba : Int) + n - 1) rfl
      obtain ⟨i, hi⟩ : ∃ i : Nat, j = ba + i := ⟨j - ba, by omega⟩
      subst hi
      have hlt : i < n := by omega
      have hr : ev ρ (shA e.2.1 ((bb : Int) - ba)) = some ((bb + i : Nat) : Int) := (shA_ev f1).trans (congrArg some (by omega))
      obtain ⟨y, hy⟩ := pl_ev (s := s) hr
      have ey := eqA_ok ho b7 hr hy
      have hne : ∀ z, lk H t = some z → z ≠ (i : Int) := by
        intro z hz
        rcases hh.lkp (t := t) with ⟨q1, q2⟩ | ⟨a, z', q1, q2, q3⟩
        · rw [q2] at hz; cases hz
        · rw [q2] at hz
          cases Option.some.inj hz
          rw [q1] at b5
          replace b5 : (leAV s (shA a 1) (shA e.2.1 (-(ba : Int))) || leAV s (shA e.2.1 (1 - (ba : Int))) a) = true := b5
          rw [Bool.or_eq_true] at b5
          rcases b5 with b5 | b5
          · have := leAV_ok ho b5 (shA_ev q3) (shA_ev f1)
            omega
          · have := leAV_ok ho b5 (shA_ev f1) q3
            omega
      have hE := hS i hlt hne
      have hm : Mf ρ σ (kb, (pl s (shA e.2.1 ((bb : Int) - ba)), e.2.2)) := ⟨bb + i, by rw [hy, ← ey], Or.inr ⟨b2, by rw [f3, hE]⟩⟩
      exact hsL_ok hS (ho.addm hm) rest hh
theorem lS_dep {t k1 b1 k2 b2 n : Nat} {H H' : List (Nat × Int)} {σ σ' : zS} (h0 : lk H' t = lk H t) (r1 : σ'.2 k1 = σ.2 k1) (r2 : σ'.2 k2 = σ.2 k2) (hS : lS t k1 b1 k2 b2 n H σ) : lS t k1 b1 k2 b2 n H' σ' := by
  refine ⟨fun q i hi => ?_, fun z q => ?_⟩
  · rw [r1, r2]
    exact hS.1 (by rw [← h0]; exact q) i hi
  · obtain ⟨j, c1, c2, c3⟩ := hS.2 z (by rw [← h0]; exact q)
    exact ⟨j, c1, c2, fun i hi hne => by rw [r1, r2]; exact c3 i hi hne⟩
abbrev lSp (e : Ep) (H : List (Nat × Int)) (σ : zS) : Prop := lS e.1 e.2.1 e.2.2.1 e.2.2.2.1 e.2.2.2.2.1 e.2.2.2.2.2 H σ
def lww (s : Sy) (k : Nat) (p v : AV) : List Ep → List (Nat × AV) → Option (List (Nat × AV))
  | [], hl => some hl
  | e :: r, hl => bif Nat.beq k e.2.1 then (match lwH e.1 e.2.2.1 e.2.2.2.1 e.2.2.2.2.1 e.2.2.2.2.2 s hl p v with
      | some hl' => lww s k p v r hl'
      | none => none)
    else bif Nat.beq k e.2.2.2.1 then (match lwM e.1 e.2.1 e.2.2.1 e.2.2.2.2.1 e.2.2.2.2.2 s hl p v with
      | some hl' => lww s k p v r hl'
      | none => none)
    else lww s k p v r hl
theorem lww_ok {J : Jt} {s : Sy} {ρ : List Int} {σ : zS} {k j : Nat} {p v : AV} {x : Int64} (ho : Ok J s ρ σ) (hp : ev ρ p = some (j : Int)) (hx : ev ρ v = some x.toInt) : ∀ {PE : List Ep} {hl hl' : List (Nat × AV)} {H : List (Nat × Int)}, (∀ e ∈ PE, e.2.1 ≠ e.2.2.2.1) → eApt PE → lww s k p v PE hl = some hl' → Hl ρ hl H → (∀ e ∈ PE, lSp e H σ) → ∃ H', Hl ρ hl' H' ∧ (∀ e ∈ PE, lSp e H' (zJ σ k j x)) ∧ ∀ u, (∀ e ∈ PE, u ≠ e.1) → lk H' u = lk H u
  | [], hl, hl', H, _, _, h, hh, _ => by
    cases Option.some.inj h
    exact ⟨H, hh, fun e he => (by cases he), fun _ _ => rfl⟩
  | e :: r, hl, hl', H, hk, ha, h, hh, hS => by
    have hk0 := hk e (List.mem_cons_self ..)
    have hkr : ∀ e' ∈ r, e'.2.1 ≠ e'.2.2.2.1 := fun e' q => hk e' (List.mem_cons_of_mem _ q)
    have hS0 := hS e (List.mem_cons_self ..)
    have hSr : ∀ e' ∈ r, lSp e' H σ := fun e' q => hS e' (List.mem_cons_of_mem _ q)
    unfold lww at h
    have go : ∀ {hl1 : List (Nat × AV)} {H1 : List (Nat × Int)}, lww s k p v r hl1 = some hl' → Hl ρ hl1 H1 → lSp e H1 (zJ σ k j x) → (∀ u, u ≠ e.1 → lk H1 u = lk H u) → ∃ H', Hl ρ hl' H' ∧ (∀ e' ∈ e :: r, lSp e' H' (zJ σ k j x)) ∧ ∀ u, (∀ e' ∈ e :: r, u ≠ e'.1) → lk H' u = lk H u := by
      intro hl1 H1 g1 g2 g3 g4
      have h1 : ∀ e' ∈ r, lSp e' H1 σ := fun e' q => by
        have := ha.1 e' q
        exact lS_dep (g4 _ (by omega)) rfl rfl (hSr e' q)
      obtain ⟨H', a1, a2, a3⟩ := lww_ok ho hp hx hkr ha.2 g1 g2 h1
      refine ⟨H', a1, fun e' q => ?_, fun u hu => ?_⟩
      · rcases List.mem_cons.mp q with rfl | q
        · exact lS_dep (a3 _ (fun e'' q => by have := ha.1 e'' q; omega)) rfl rfl g3
        · exact a2 e' q
      · exact (a3 u (fun e' q => hu e' (List.mem_cons_of_mem _ q))).trans (g4 u (hu e (List.mem_cons_self ..)))
    cases e1 : Nat.beq k e.2.1 with
    | true =>
      rw [e1] at h
      have ek := Nat.eq_of_beq_eq_true e1
      simp only [cond_true] at h
      split at h
      · rename_i hl1 hw
        obtain ⟨H1, b1, b2, b3⟩ := lwH_ok (k1 := e.2.1) hk0 ho hp hx hw hh hS0
        exact go h b1 (by rw [ek]; exact b2) b3
      · cases h
    | false =>
      rw [e1] at h
      simp only [cond_false] at h
      cases e2 : Nat.beq k e.2.2.2.1 with
      | true =>
        rw [e2] at h
        have ek := Nat.eq_of_beq_eq_true e2
        simp only [cond_true] at h
        split at h
        · rename_i hl1 hw
          obtain ⟨H1, b1, b2, b3⟩ := lwM_ok (k2 := e.2.2.2.1) hk0 ho hp hx hw hh hS0
          exact go h b1 (by rw [ek]; exact b2) b3
        · cases h
      | false =>
        rw [e2] at h
        simp only [cond_false] at h
        exact go h hh (lS_dep rfl (zJ_row (fun q => beq_ne e1 q.symm)) (zJ_row (fun q => beq_ne e2 q.symm)) hS0) (fun _ _ => rfl)
def ltg (t : Nat) : Bool := Nat.ble 600 t && Nat.blt t 800
def ceqL (PE : List Ep) : Cp := (ltg, (fun H σ => ∀ e ∈ PE, lSp e H σ, (fun _ => false, (fun _ hl _ _ _ => some hl, (fun q => PE.any fun e => Nat.beq q e.2.1 || Nat.beq q e.2.2.2.1, fun s hl k p v => lww s k p v PE hl)))))
theorem ceqL_ok {T : Jx} {G : Gl} {PE : List Ep} (hk : ∀ e ∈ PE, e.2.1 ≠ e.2.2.2.1) (ha : eApt PE) (ht : ∀ e ∈ PE, 600 ≤ e.1 ∧ e.1 < 800) : CpOk T G (ceqL PE) := by
  have tin : ∀ t : Nat, 600 ≤ t → t < 800 → ltg t = true := fun t h1 h2 => by
    show (Nat.ble 600 t && Nat.blt t 800) = true
    rw [Bool.and_eq_true]
    exact ⟨Nat.ble_eq_true_of_le h1, Nat.ble_eq_true_of_le h2⟩
  refine ⟨fun u hu => ?_, fun H H' σ σ' h1 _ h2 hS e he => ?_, fun s ρ σ k p v j x hl hl' H _ _ _ _ _ _ hr => (by cases hr), ?_⟩
  · have hu : (Nat.ble 600 u && Nat.blt u 800) = true := hu
    rw [Bool.and_eq_true] at hu
    have := Nat.le_of_ble_eq_true hu.1
    omega
  · have h0 := ht e he
    have g : ∀ q, Nat.beq q e.2.1 = true ∨ Nat.beq q e.2.2.2.1 = true → σ'.2 q = σ.2 q := fun q hq => h2 q (List.any_eq_true.mpr ⟨e, he, by rw [Bool.or_eq_true]; exact hq⟩)
    exact lS_dep (h1 _ (tin _ h0.1 h0.2)) (g _ (Or.inl (Nat.beq_refl _))) (g _ (Or.inr (Nat.beq_refl _))) (hS e he)
  · intro s ρ σ k p v j x hl hl' H ho hp hi hv hx hr hw hh hS
    obtain ⟨H', a1, a2, a3⟩ := lww_ok ho hp hx hk ha hw hh hS
    refine ⟨H', a1, a2, fun t hn => a3 t (fun e he => ?_)⟩
    have h0 := ht e he
    have nt : ¬ (600 ≤ t ∧ t < 800) := fun q => by
      rw [show (ceqL PE).tg t = ltg t from rfl, tin t q.1 q.2] at hn
      cases hn
    omega
def hsAllL : List Ep → Sy → Sy
  | [], s => s
  | e :: r, s => hsAllL r (hsL e.1 e.2.2.2.1 e.2.2.2.2.1 e.2.1 e.2.2.1 e.2.2.2.2.2 (hsL e.1 e.2.1 e.2.2.1 e.2.2.2.1 e.2.2.2.2.1 e.2.2.2.2.2 s.me s).me (hsL e.1 e.2.1 e.2.2.1 e.2.2.2.1 e.2.2.2.2.1 e.2.2.2.2.2 s.me s))
theorem lS_at {t k1 b1 k2 b2 n : Nat} {H : List (Nat × Int)} {σ : zS} (hS : lS t k1 b1 k2 b2 n H σ) (i : Nat) (hi : i < n) (hz : ∀ z, lk H t = some z → z ≠ (i : Int)) : σ.2 k1 (b1 + i) = σ.2 k2 (b2 + i) := by
  cases q : lk H t with
  | none => exact hS.1 q i hi
  | some z =>
    obtain ⟨j, c1, c2, c3⟩ := hS.2 z q
    exact c3 i hi (fun e => hz z q (by rw [c1, e]))
theorem hsAllL_ok {J : Jt} {ρ : List Int} {σ : zS} {H : List (Nat × Int)} : ∀ {PE : List Ep} {s : Sy}, (∀ e ∈ PE, lSp e H σ) → Ok J s ρ σ → Hl ρ s.hl H → Ok J (hsAllL PE s) ρ σ ∧ (hsAllL PE s).hl = s.hl
  | [], s, _, ho, _ => ⟨ho, rfl⟩
  | e :: r, s, hS, ho, hh => by
    unfold hsAllL
    have hS0 := hS e (List.mem_cons_self ..)
    obtain ⟨a1, a2⟩ := hsL_ok (ka := e.2.1) (ba := e.2.2.1) (kb := e.2.2.2.1) (bb := e.2.2.2.2.1) (fun i hi hz => lS_at hS0 i hi hz) ho (fun e' q => ho.me e' q) hh
    obtain ⟨b1, b2⟩ := hsL_ok (ka := e.2.2.2.1) (ba := e.2.2.2.2.1) (kb := e.2.1) (bb := e.2.2.1) (fun i hi hz => (lS_at hS0 i hi hz).symm) a1 (fun e' q => a1.me e' q) (by rw [a2]; exact hh)
    obtain ⟨c1, c2⟩ := hsAllL_ok (fun e' q => hS e' (List.mem_cons_of_mem _ q)) b1 (by rw [b2, a2]; exact hh)
    exact ⟨c1, by rw [c2, b2, a2]⟩
end
