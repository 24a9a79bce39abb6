section
noncomputable section
/-! ===== WHAT ELSE HOLDS, 27: rows of both sides that hold the same ===== -/
/-- a pair: its tag; a row and where it begins, twice; how many places -/
noncomputable abbrev Ep : Type := Nat × (Nat × (Nat × (Nat × (Nat × Nat))))
/-- k1 from b1 on and k2 from b2 on hold the same at n places; t: one place where they needn't; t + 1: what k1 holds there; t + 2: what k2 holds there -/
noncomputable def eS (t k1 b1 k2 b2 n : Nat) (H : List (Nat × Int)) (σ : zS) : Prop :=
  (lk H t = none → ∀ i : Nat, i < n → σ.1 k1 (b1 + i) = σ.1 k2 (b2 + i)) ∧
  ∀ z, lk H t = some z → ∃ j : Nat, z = (j : Int) ∧ j < n ∧ (∀ i : Nat, i < n → i ≠ j → σ.1 k1 (b1 + i) = σ.1 k2 (b2 + i)) ∧
    (∀ y, lk H (t + 1) = some y → (σ.1 k1 (b1 + j)).toInt = y) ∧ (∀ y, lk H (t + 2) = some y → (σ.1 k2 (b2 + j)).toInt = y)
noncomputable def eqA (s : Sy) (a b : AV) : Bool := leAV s a b && leAV s b a
/-- what is known of the row k at r -/
noncomputable def oth (s : Sy) (k : Nat) (r : AV) : Option AV := match mget s.me k (pl s r) with
  | some w => bif w.isI && eqA s r (pl s r) then some w else none
  | none => none
noncomputable def ewH (t b1 k2 b2 n : Nat) (s : Sy) (hl : List (Nat × AV)) (p v : AV) : Option (List (Nat × AV)) :=
  bif leAV s p (.c ((b1 : Int) - 1)) || leAV s (.c ((b1 : Int) + n)) p then some hl
  else bif leAV s (.c (b1 : Int)) p && leAV s p (.c ((b1 : Int) + n - 1)) then (match lk hl t with
    | none => match oth s k2 (shA p ((b2 : Int) - b1)) with
      | some w => bif eqA s v w then some hl else some (hset t (shA p (-(b1 : Int))) (hset (t + 1) v (hset (t + 2) w hl)))
      | none => some (hset t (shA p (-(b1 : Int))) (hset (t + 1) v (hdel (t + 2) hl)))
    | some x => bif eqA s x (shA p (-(b1 : Int))) then some (hset (t + 1) v hl) else none)
  else none
noncomputable def ewM (t k1 b1 b2 n : Nat) (s : Sy) (hl : List (Nat × AV)) (p v : AV) : Option (List (Nat × AV)) :=
  bif leAV s p (.c ((b2 : Int) - 1)) || leAV s (.c ((b2 : Int) + n)) p then some hl
  else bif leAV s (.c (b2 : Int)) p && leAV s p (.c ((b2 : Int) + n - 1)) then (match lk hl t with
    | none => match oth s k1 (shA p ((b1 : Int) - b2)) with
      | some w => bif eqA s v w then some hl else none
      | none => none
    | some x => match lk hl (t + 1) with
      | some y => bif eqA s x (shA p (-(b2 : Int))) then (bif eqA s v y then some (hdel t (hdel (t + 1) (hdel (t + 2) hl))) else some (hset (t + 2) v hl)) else none
      | none => none)
  else none
section C27
variable {J : Jt} {s : Sy} {ρ : List Int} {σ : zS}
theorem eqA_ok {a b : AV} {x y : Int} (ho : Ok J s ρ σ) (h : eqA s a b = true) (ha : ev ρ a = some x) (hb : ev ρ b = some y) : x = y := by
  unfold eqA at h
  rw [Bool.and_eq_true] at h
  have h1 := leAV_ok ho h.1 ha hb
  have h2 := leAV_ok ho h.2 hb ha
  omega
theorem oth_ok (ho : Ok J s ρ σ) {k j : Nat} {r w : AV} (h : oth s k r = some w) (hr : ev ρ r = some (j : Int)) : w.isI = true ∧ ev ρ w = some (σ.1 k j).toInt := by
  unfold oth at h
  split at h
  · rename_i w' hm
    cases hc : w'.isI && eqA s r (pl s r) with
    | false => rw [hc] at h; cases h
    | true =>
      rw [hc] at h
      cases Option.some.inj h
      rw [Bool.and_eq_true] at hc
      obtain ⟨j', q1, q2⟩ := ho.me _ (mget_mem hm)
      have e := eqA_ok ho hc.2 hr q1
      have ej : j' = j := by omega
      subst ej
      exact ⟨hc.1, me_at ho hm q1 hc.1⟩
  · cases h
theorem ewH_ok {t k1 b1 k2 b2 n j : Nat} {p v : AV} {x : Int32} {hl hl' : List (Nat × AV)} {H : List (Nat × Int)} (hk : k1 ≠ k2) (ho : Ok J s ρ σ) (hp : ev ρ p = some (j : Int)) (hx : ev ρ v = some x.toInt) (hw : ewH t b1 k2 b2 n s hl p v = some hl') (hh : Hl ρ hl H) (hS : eS t k1 b1 k2 b2 n H σ) : ∃ H', Hl ρ hl' H' ∧ eS t k1 b1 k2 b2 n H' (zI σ k1 j x) ∧ ∀ u, u ≠ t → u ≠ t + 1 → u ≠ t + 2 → lk H' u = lk H u := by
  have base : ∀ i : Nat, b1 + i ≠ j → (zI σ k1 j x).1 k1 (b1 + i) = σ.1 k1 (b1 + i) := fun i h => zI_ne (by rintro ⟨_, q⟩; exact h q)
  have row2 : (zI σ k1 j x).1 k2 = σ.1 k2 := zI_row hk.symm
  unfold ewH at hw
  cases e1 : leAV s p (.c ((b1 : Int) - 1)) || leAV s (.c ((b1 : Int) + n)) p with
  | true =>
    rw [e1] at hw
    cases Option.some.inj hw
    have out : ∀ i : Nat, i < n → b1 + i ≠ j := by
      intro i hi
      rw [Bool.or_eq_true] at e1
      rcases e1 with e1 | e1
      · have := leAV_ok ho e1 hp (y := (b1 : Int) - 1) rfl
        omega
      · have := leAV_ok ho e1 (x := (b1 : Int) + n) rfl hp
        omega
    refine ⟨H, hh, ⟨fun q i hi => by rw [base i (out i hi), row2]; exact hS.1 q i hi, fun z q => ?_⟩, fun _ _ _ _ => rfl⟩
    obtain ⟨i0, c1, c2, c3, c4, c5⟩ := hS.2 z q
    exact ⟨i0, c1, c2, fun i hi hne => by rw [base i (out i hi), row2]; exact c3 i hi hne, fun y q => by rw [base i0 (out i0 c2)]; exact c4 y q, fun y q => by rw [row2]; exact c5 y q⟩
  | false =>
    rw [e1] at hw
    simp only [cond_false] at hw
    cases e2 : leAV s (.c (b1 : Int)) p && leAV s p (.c ((b1 : Int) + n - 1)) with
    | false => rw [e2] at hw; cases hw
    | true =>
      rw [e2] at hw
      simp only [cond_true] at hw
      rw [Bool.and_eq_true] at e2
      have g1 := leAV_ok ho e2.1 (x := (b1 : Int)) rfl hp
      have g2 := leAV_ok ho e2.2 hp (y := (b1 : Int) + n - 1) rfl
      obtain ⟨i0, hi0⟩ : ∃ i0 : Nat, j = b1 + i0 := ⟨j - b1, by omega⟩
      have hlt : i0 < n := by omega
      subst hi0
      have hpa : ev ρ (shA p (-(b1 : Int))) = some (i0 : Int) := (shA_ev hp).trans (congrArg some (by omega))
      have hpr : ev ρ (shA p ((b2 : Int) - b1)) = some ((b2 + i0 : Nat) : Int) := (shA_ev hp).trans (congrArg some (by omega))
      have new : (zI σ k1 (b1 + i0) x).1 k1 (b1 + i0) = x := zI_at
      have rest : (∀ i : Nat, i < n → i ≠ i0 → σ.1 k1 (b1 + i) = σ.1 k2 (b2 + i)) → ∀ i : Nat, i < n → i ≠ i0 → (zI σ k1 (b1 + i0) x).1 k1 (b1 + i) = (zI σ k1 (b1 + i0) x).1 k2 (b2 + i) := fun h i hi hne => by rw [base i (by omega), row2]; exact h i hi hne
      rcases hh.lkp (t := t) with ⟨q1, q2⟩ | ⟨a, z, q1, q2, q3⟩
      · rw [q1] at hw
        have all := hS.1 q2
        cases e3 : oth s k2 (shA p ((b2 : Int) - b1)) with
        | none =>
          rw [e3] at hw
          cases Option.some.inj hw
          refine ⟨hset t (i0 : Int) (hset (t + 1) x.toInt (hdel (t + 2) H)), ((hh.del).set hx).set hpa, ⟨fun q => ?_, fun z q => ?_⟩, fun u u0 u1 u2 => ?_⟩
          · rw [lk_hset, if_pos rfl] at q; cases q
          · rw [lk_hset, if_pos rfl] at q
            cases Option.some.inj q
            refine ⟨i0, rfl, hlt, rest (fun i hi _ => all i hi), fun y q => ?_, fun y q => ?_⟩
            · rw [lk_hset, if_neg (by omega), lk_hset, if_pos rfl] at q
              rw [new]; exact Option.some.inj q
            · rw [lk_hset, if_neg (by omega), lk_hset, if_neg (by omega), lk_hdel, if_pos rfl] at q
              cases q
          · rw [lk_hset, if_neg u0, lk_hset, if_neg u1, lk_hdel, if_neg u2]
        | some w =>
          obtain ⟨w1, w2⟩ := oth_ok ho e3 hpr
          rw [e3] at hw
          replace hw : (bif eqA s v w then some hl else some (hset t (shA p (-(b1 : Int))) (hset (t + 1) v (hset (t + 2) w hl)))) = some hl' := hw
          cases e4 : eqA s v w with
          | true =>
            rw [e4] at hw
            cases Option.some.inj hw
            have exw : x = σ.1 k2 (b2 + i0) := Int32.toInt_inj.mp (eqA_ok ho e4 hx w2)
            refine ⟨H, hh, ⟨fun _ i hi => ?_, fun z q => by rw [q2] at q; cases q⟩, fun _ _ _ _ => rfl⟩
            by_cases e : i = i0
            · rw [e, new, row2]; exact exw
            · exact rest (fun i hi _ => all i hi) i hi e
          | false =>
            rw [e4] at hw
            cases Option.some.inj hw
            refine ⟨hset t (i0 : Int) (hset (t + 1) x.toInt (hset (t + 2) (σ.1 k2 (b2 + i0)).toInt H)), ((hh.set w2).set hx).set hpa, ⟨fun q => ?_, fun z q => ?_⟩, fun u u0 u1 u2 => ?_⟩
            · rw [lk_hset, if_pos rfl] at q; cases q
            · rw [lk_hset, if_pos rfl] at q
              cases Option.some.inj q
              refine ⟨i0, rfl, hlt, rest (fun i hi _ => all i hi), fun y q => ?_, fun y q => ?_⟩
              · rw [lk_hset, if_neg (by omega), lk_hset, if_pos rfl] at q
                rw [new]; exact Option.some.inj q
              · rw [lk_hset, if_neg (by omega), lk_hset, if_neg (by omega), lk_hset, if_pos rfl] at q
                rw [row2]; exact Option.some.inj q
            · rw [lk_hset, if_neg u0, lk_hset, if_neg u1, lk_hset, if_neg u2]
      · rw [q1] at hw
        replace hw : (bif eqA s a (shA p (-(b1 : Int))) then some (hset (t + 1) v hl) else none) = some hl' := hw
        cases e3 : eqA s a (shA p (-(b1 : Int))) with
        | false => rw [e3] at hw; cases hw
        | true =>
          rw [e3] at hw
          cases Option.some.inj hw
          have ez := eqA_ok ho e3 q3 hpa
          obtain ⟨i1, c1, c2, c3, c4, c5⟩ := hS.2 z q2
          have e01 : i1 = i0 := by omega
          subst e01
          refine ⟨hset (t + 1) x.toInt H, hh.set hx, ⟨fun q => ?_, fun z' q => ?_⟩, fun u u0 u1 u2 => ?_⟩
          · rw [lk_hset, if_neg (by omega), q2] at q; cases q
          · rw [lk_hset, if_neg (by omega), q2] at q
            cases Option.some.inj q
            refine ⟨i1, c1, c2, rest c3, fun y q => ?_, fun y q => ?_⟩
            · rw [lk_hset, if_pos rfl] at q
              rw [new]; exact Option.some.inj q
            · rw [lk_hset, if_neg (by omega)] at q
              rw [row2]; exact c5 y q
          · rw [lk_hset, if_neg u1]
theorem ewM_ok {t k1 b1 k2 b2 n j : Nat} {p v : AV} {x : Int32} {hl hl' : List (Nat × AV)} {H : List (Nat × Int)} (hk : k1 ≠ k2) (ho : Ok J s ρ σ) (hp : ev ρ p = some (j : Int)) (hx : ev ρ v = some x.toInt) (hw : ewM t k1 b1 b2 n s hl p v = some hl') (hh : Hl ρ hl H) (hS : eS t k1 b1 k2 b2 n H σ) : ∃ H', Hl ρ hl' H' ∧ eS t k1 b1 k2 b2 n H' (zI σ k2 j x) ∧ ∀ u, u ≠ t → u ≠ t + 1 → u ≠ t + 2 → lk H' u = lk H u := by
  have base : ∀ i : Nat, b2 + i ≠ j → (zI σ k2 j x).1 k2 (b2 + i) = σ.1 k2 (b2 + i) := fun i h => zI_ne (by rintro ⟨_, q⟩; exact h q)
  have row1 : (zI σ k2 j x).1 k1 = σ.1 k1 := zI_row hk
  unfold ewM at hw
  cases e1 : leAV s p (.c ((b2 : Int) - 1)) || leAV s (.c ((b2 : Int) + n)) p with
  | true =>
    rw [e1] at hw
    cases Option.some.inj hw
    have out : ∀ i : Nat, i < n → b2 + i ≠ j := by
      intro i hi
      rw [Bool.or_eq_true] at e1
      rcases e1 with e1 | e1
      · have := leAV_ok ho e1 hp (y := (b2 : Int) - 1) rfl
        omega
      · have := leAV_ok ho e1 (x := (b2 : Int) + n) rfl hp
        omega
    refine ⟨H, hh, ⟨fun q i hi => by rw [base i (out i hi), row1]; exact hS.1 q i hi, fun z q => ?_⟩, fun _ _ _ _ => rfl⟩
    obtain ⟨i0, c1, c2, c3, c4, c5⟩ := hS.2 z q
    exact ⟨i0, c1, c2, fun i hi hne => by rw [base i (out i hi), row1]; exact c3 i hi hne, fun y q => by rw [row1]; exact c4 y q, fun y q => by rw [base i0 (out i0 c2)]; exact c5 y q⟩
  | false =>
    rw [e1] at hw
    simp only [cond_false] at hw
    cases e2 : leAV s (.c (b2 : Int)) p && leAV s p (.c ((b2 : Int) + n - 1)) with
    | false => rw [e2] at hw; cases hw
    | true =>
      rw [e2] at hw
      simp only [cond_true] at hw
      rw [Bool.and_eq_true] at e2
      have g1 := leAV_ok ho e2.1 (x := (b2 : Int)) rfl hp
      have g2 := leAV_ok ho e2.2 hp (y := (b2 : Int) + n - 1) rfl
      obtain ⟨i0, hi0⟩ : ∃ i0 : Nat, j = b2 + i0 := ⟨j - b2, by omega⟩
      have hlt : i0 < n := by omega
      subst hi0
      have hpa : ev ρ (shA p (-(b2 : Int))) = some (i0 : Int) := (shA_ev hp).trans (congrArg some (by omega))
      have hpr : ev ρ (shA p ((b1 : Int) - b2)) = some ((b1 + i0 : Nat) : Int) := (shA_ev hp).trans (congrArg some (by omega))
      have new : (zI σ k2 (b2 + i0) x).1 k2 (b2 + i0) = x := zI_at
      have rest : (∀ i : Nat, i < n → i ≠ i0 → σ.1 k1 (b1 + i) = σ.1 k2 (b2 + i)) → ∀ i : Nat, i < n → i ≠ i0 → (zI σ k2 (b2 + i0) x).1 k1 (b1 + i) = (zI σ k2 (b2 + i0) x).1 k2 (b2 + i) := fun h i hi hne => by rw [base i (by omega), row1]; exact h i hi hne
      rcases hh.lkp (t := t) with ⟨q1, q2⟩ | ⟨a, z, q1, q2, q3⟩
      · rw [q1] at hw
        have all := hS.1 q2
        cases e3 : oth s k1 (shA p ((b1 : Int) - b2)) with
        | none => rw [e3] at hw; cases hw
        | some w =>
          obtain ⟨w1, w2⟩ := oth_ok ho e3 hpr
          rw [e3] at hw
          replace hw : (bif eqA s v w then some hl else none) = some hl' := hw
          cases e4 : eqA s v w with
          | true =>
            rw [e4] at hw
            cases Option.some.inj hw
            have exw : x = σ.1 k1 (b1 + i0) := Int32.toInt_inj.mp (eqA_ok ho e4 hx w2)
            refine ⟨H, hh, ⟨fun _ i hi => ?_, fun z q => by rw [q2] at q; cases q⟩, fun _ _ _ _ => rfl⟩
            by_cases e : i = i0
            · rw [e, new, row1]; exact exw.symm
            · exact rest (fun i hi _ => all i hi) i hi e
          | false => rw [e4] at hw; cases hw
      · rw [q1] at hw
        rcases hh.lkp (t := t + 1) with ⟨r1, r2⟩ | ⟨b, y, r1, r2, r3⟩
        · rw [r1] at hw; cases hw
        · rw [r1] at hw
          replace hw : (bif eqA s a (shA p (-(b2 : Int))) then (bif eqA s v b then some (hdel t (hdel (t + 1) (hdel (t + 2) hl))) else some (hset (t + 2) v hl)) else none) = some hl' := hw
          cases e3 : eqA s a (shA p (-(b2 : Int))) with
          | false => rw [e3] at hw; cases hw
          | true =>
            rw [e3] at hw
            simp only [cond_true] at hw
            have ez := eqA_ok ho e3 q3 hpa
            obtain ⟨i1, c1, c2, c3, c4, c5⟩ := hS.2 z q2
            have e01 : i1 = i0 := by omega
            subst e01
            cases e4 : eqA s v b with
            | false =>
              rw [e4] at hw
              cases Option.some.inj hw
              refine ⟨hset (t + 2) x.toInt H, hh.set hx, ⟨fun q => ?_, fun z' q => ?_⟩, fun u u0 u1 u2 => ?_⟩
              · rw [lk_hset, if_neg (by omega), q2] at q; cases q
              · rw [lk_hset, if_neg (by omega), q2] at q
                cases Option.some.inj q
                refine ⟨i1, c1, c2, rest c3, fun y q => ?_, fun y q => ?_⟩
                · rw [lk_hset, if_neg (by omega)] at q
                  rw [row1]; exact c4 y q
                · rw [lk_hset, if_pos rfl] at q
                  rw [new]; exact Option.some.inj q
              · rw [lk_hset, if_neg u2]
            | true =>
            rw [e4] at hw
            cases Option.some.inj hw
            have ey := eqA_ok ho e4 hx r3
            refine ⟨hdel t (hdel (t + 1) (hdel (t + 2) H)), ((hh.del).del).del, ⟨fun _ i hi => ?_, fun z' q => ?_⟩, fun u u0 u1 u2 => ?_⟩
            · by_cases e : i = i1
              · rw [e, new, row1]
                exact Int32.toInt_inj.mp ((c4 y r2).trans ey.symm)
              · exact rest c3 i hi e
            · rw [lk_hdel, if_pos rfl] at q; cases q
            · rw [lk_hdel, if_neg u0, lk_hdel, if_neg u1, lk_hdel, if_neg u2]
end C27
/-- hint 60: what is known of a row, known of the other -/
noncomputable def hsA (t ka ba kb bb n : Nat) : List (Nat × (AV × AV)) → Sy → Sy
  | [], s => s
  | e :: r, s => hsA t ka ba kb bb n r (bif (Nat.beq e.1 ka && e.2.2.isI) && ((leAV s (.c (ba : Int)) e.2.1 && leAV s e.2.1 (.c ((ba : Int) + n - 1))) && ((match lk s.hl t with
      | none => true
      | some x => leAV s (shA x 1) (shA e.2.1 (-(ba : Int))) || leAV s (shA e.2.1 (1 - (ba : Int))) x) && (!(isS (mget s.me kb (pl s (shA e.2.1 ((bb : Int) - ba))))) && eqA s (shA e.2.1 ((bb : Int) - ba)) (pl s (shA e.2.1 ((bb : Int) - ba))))))
    then s.add kb (pl s (shA e.2.1 ((bb : Int) - ba))) e.2.2 else s)
theorem pl_ev {s : Sy} {ρ : List Int} {a : AV} {x : Int} (h : ev ρ a = some x) : ∃ y, ev ρ (pl s a) = some y := by
  unfold pl
  split
  · rename_i u w _
    cases hb : ile w u with
    | true => exact ⟨u, rfl⟩
    | false => exact ⟨x, h⟩
  · exact ⟨x, h⟩
theorem hsA_ok {J : Jt} {ρ : List Int} {σ : zS} {t ka ba kb bb n : Nat} {H : List (Nat × Int)} (hS : ∀ i : Nat, i < n → (∀ z, lk H t = some z → z ≠ (i : Int)) → σ.1 ka (ba + i) = σ.1 kb (bb + i)) : ∀ {es : List (Nat × (AV × AV))} {s : Sy}, Ok J s ρ σ → (∀ e ∈ es, Mf ρ σ e) → Hl ρ s.hl H → Ok J (hsA t ka ba kb bb n es s) ρ σ ∧ (hsA t ka ba kb bb n es s).hl = s.hl
  | [], s, ho, _, _ => ⟨ho, rfl⟩
  | e :: r, s, ho, hes, hh => by
    unfold hsA
    have rest := fun e' he' => hes e' (List.mem_cons_of_mem e he')
    cases hb : (Nat.beq e.1 ka && e.2.2.isI) && ((leAV s (.c (ba : Int)) e.2.1 && leAV s e.2.1 (.c ((ba : Int) + n - 1))) && ((match lk s.hl t with
      | none => true
      | some x => leAV s (shA x 1) (shA e.2.1 (-(ba : Int))) || leAV s (shA e.2.1 (1 - (ba : Int))) x) && (!(isS (mget s.me kb (pl s (shA e.2.1 ((bb : Int) - ba))))) && eqA s (shA e.2.1 ((bb : Int) - ba)) (pl s (shA e.2.1 ((bb : Int) - ba)))))) with
    | false => exact hsA_ok hS ho rest hh
    | true =>
      simp only [cond_true]
      simp only [Bool.and_eq_true] at hb
      obtain ⟨⟨b1, b2⟩, ⟨b3, b4⟩, b5, b6, b7⟩ := hb
      have hk := Nat.eq_of_beq_eq_true b1
      obtain ⟨j, f1, f2⟩ := hes e (List.mem_cons_self ..)
      have f3 : ev ρ e.2.2 = some (σ.1 ka j).toInt := by
        rw [← hk]
        rcases f2 with ⟨_, f2⟩ | ⟨q, _⟩
        · exact f2
        · exact (isI_L b2 q).elim
      have g1 := leAV_ok ho b3 (x := (ba : Int)) rfl f1
      have g2 := leAV_ok ho b4 f1 (y := (ba : Int) + n - 1) rfl
      obtain ⟨i, hi⟩ : ∃ i : Nat, j = ba + i := ⟨j - ba, by omega⟩
      subst hi
      have hlt : i < n := by omega
      have hr : ev ρ (shA e.2.1 ((bb : Int) - ba)) = some ((bb + i : Nat) : Int) := (shA_ev f1).trans (congrArg some (by omega))
      obtain ⟨y, hy⟩ := pl_ev (s := s) hr
      have ey := eqA_ok ho b7 hr hy
      have hne : ∀ z, lk H t = some z → z ≠ (i : Int) := by
        intro z hz
        rcases hh.lkp (t := t) with ⟨q1, q2⟩ | ⟨a, z', q1, q2, q3⟩
        · rw [q2] at hz; cases hz
        · rw [q2] at hz
          cases Option.some.inj hz
          rw [q1] at b5
          replace b5 : (leAV s (shA a 1) (shA e.2.1 (-(ba : Int))) || leAV s (shA e.2.1 (1 - (ba : Int))) a) = true := b5
          rw [Bool.or_eq_true] at b5
          rcases b5 with b5 | b5
          · have := leAV_ok ho b5 (shA_ev q3) (shA_ev f1)
            omega
          · have := leAV_ok ho b5 (shA_ev f1) q3
            omega
      have hE := hS i hlt hne
      have hm : Mf ρ σ (kb, (pl s (shA e.2.1 ((bb : Int) - ba)), e.2.2)) := ⟨bb + i, by rw [hy, ← ey], Or.inl ⟨b2, by rw [f3, hE]⟩⟩
      exact hsA_ok hS (ho.addm hm) rest hh
/-- hint 62: at the open place: what the other row holds -/
noncomputable def hop (t k2 b2 : Nat) (a : AV) (s : Sy) : Sy := match lk s.hl t with
  | some x => match lk s.hl (t + 2) with
    | some w => bif w.isI && (eqA s (shA x (b2 : Int)) a && (eqA s a (pl s a) && !(isS (mget s.me k2 (pl s a))))) then s.add k2 (pl s a) w else s
    | none => s
  | none => s
theorem hop_ok {J : Jt} {s : Sy} {ρ : List Int} {σ : zS} {t k1 b1 k2 b2 n : Nat} {a : AV} {y : Int} {H : List (Nat × Int)} (hS : eS t k1 b1 k2 b2 n H σ) (ho : Ok J s ρ σ) (hh : Hl ρ s.hl H) (ha : ev ρ a = some y) : Ok J (hop t k2 b2 a s) ρ σ := by
  unfold hop
  rcases hh.lkp (t := t) with ⟨q1, _⟩ | ⟨x, z, q1, q2, q3⟩
  · rw [q1]; exact ho
  · rw [q1]
    rcases hh.lkp (t := t + 2) with ⟨r1, _⟩ | ⟨w, u, r1, r2, r3⟩
    · rw [r1]; exact ho
    · rw [r1]
      show Ok J (bif w.isI && (eqA s (shA x (b2 : Int)) a && (eqA s a (pl s a) && !(isS (mget s.me k2 (pl s a))))) then s.add k2 (pl s a) w else s) ρ σ
      cases hb : w.isI && (eqA s (shA x (b2 : Int)) a && (eqA s a (pl s a) && !(isS (mget s.me k2 (pl s a))))) with
      | false => exact ho
      | true =>
        simp only [Bool.and_eq_true] at hb
        obtain ⟨b1', b2', b3', _⟩ := hb
        obtain ⟨j, c1, c2, c3, c4, c5⟩ := hS.2 z q2
        have e1 := eqA_ok ho b2' (shA_ev q3) ha
        obtain ⟨y', hy⟩ := pl_ev (s := s) ha
        have e2 := eqA_ok ho b3' ha hy
        have hm : Mf ρ σ (k2, (pl s a, w)) := ⟨b2 + j, by rw [hy]; exact congrArg some (by omega), Or.inl ⟨b1', by rw [r3, c5 u r2]⟩⟩
        exact ho.addm hm
/-! all pairs together -/
theorem eS_dep {t k1 b1 k2 b2 n : Nat} {H H' : List (Nat × Int)} {σ σ' : zS} (h0 : lk H' t = lk H t) (h1 : lk H' (t + 1) = lk H (t + 1)) (h2 : lk H' (t + 2) = lk H (t + 2)) (r1 : σ'.1 k1 = σ.1 k1) (r2 : σ'.1 k2 = σ.1 k2) (hS : eS t k1 b1 k2 b2 n H σ) : eS t k1 b1 k2 b2 n H' σ' := by
  refine ⟨fun q i hi => ?_, fun z q => ?_⟩
  · rw [r1, r2]
    exact hS.1 (by rw [← h0]; exact q) i hi
  · obtain ⟨j, c1, c2, c3, c4, c5⟩ := hS.2 z (by rw [← h0]; exact q)
    exact ⟨j, c1, c2, fun i hi hne => by rw [r1, r2]; exact c3 i hi hne, fun y q => by rw [r1]; exact c4 y (by rw [← h1]; exact q), fun y q => by rw [r2]; exact c5 y (by rw [← h2]; exact q)⟩
noncomputable abbrev eSp (e : Ep) (H : List (Nat × Int)) (σ : zS) : Prop := eS e.1 e.2.1 e.2.2.1 e.2.2.2.1 e.2.2.2.2.1 e.2.2.2.2.2 H σ
noncomputable def eww (s : Sy) (k : Nat) (p v : AV) : List Ep → List (Nat × AV) → Option (List (Nat × AV))
  | [], hl => some hl
  | e :: r, hl => bif Nat.beq k e.2.1 then (match ewH e.1 e.2.2.1 e.2.2.2.1 e.2.2.2.2.1 e.2.2.2.2.2 s hl p v with
      | some hl' => eww s k p v r hl'
      | none => none)
    else bif Nat.beq k e.2.2.2.1 then (match ewM e.1 e.2.1 e.2.2.1 e.2.2.2.2.1 e.2.2.2.2.2 s hl p v with
      | some hl' => eww s k p v r hl'
      | none => none)
    else eww s k p v r hl
noncomputable def eApt : List Ep → Prop
  | [] => True
  | e :: r => (∀ e' ∈ r, e.1 + 3 ≤ e'.1) ∧ eApt r
theorem eww_ok {J : Jt} {s : Sy} {ρ : List Int} {σ : zS} {k j : Nat} {p v : AV} {x : Int32} (ho : Ok J s ρ σ) (hp : ev ρ p = some (j : Int)) (hx : ev ρ v = some x.toInt) : ∀ {PE : List Ep} {hl hl' : List (Nat × AV)} {H : List (Nat × Int)}, (∀ e ∈ PE, e.2.1 ≠ e.2.2.2.1) → eApt PE → eww s k p v PE hl = some hl' → Hl ρ hl H → (∀ e ∈ PE, eSp e H σ) → ∃ H', Hl ρ hl' H' ∧ (∀ e ∈ PE, eSp e H' (zI σ k j x)) ∧ ∀ u, (∀ e ∈ PE, u ≠ e.1 ∧ u ≠ e.1 + 1 ∧ u ≠ e.1 + 2) → lk H' u = lk H u
  | [], hl, hl', H, _, _, h, hh, _ => by
    cases Option.some.inj h
    exact ⟨H, hh, fun e he => (by cases he), fun _ _ => rfl⟩
  | e :: r, hl, hl', H, hk, ha, h, hh, hS => by
    have hk0 := hk e (List.mem_cons_self ..)
    have hkr : ∀ e' ∈ r, e'.2.1 ≠ e'.2.2.2.1 := fun e' q => hk e' (List.mem_cons_of_mem _ q)
    have hS0 := hS e (List.mem_cons_self ..)
    have hSr : ∀ e' ∈ r, eSp e' H σ := fun e' q => hS e' (List.mem_cons_of_mem _ q)
    unfold eww at h
    -- what a step on e leaves, and the rest
    have go : ∀ {hl1 : List (Nat × AV)} {H1 : List (Nat × Int)}, eww s k p v r hl1 = some hl' → Hl ρ hl1 H1 → eSp e H1 (zI σ k j x) → (∀ u, u ≠ e.1 → u ≠ e.1 + 1 → u ≠ e.1 + 2 → lk H1 u = lk H u) → ∃ H', Hl ρ hl' H' ∧ (∀ e' ∈ e :: r, eSp e' H' (zI σ k j x)) ∧ ∀ u, (∀ e' ∈ e :: r, u ≠ e'.1 ∧ u ≠ e'.1 + 1 ∧ u ≠ e'.1 + 2) → lk H' u = lk H u := by
      intro hl1 H1 g1 g2 g3 g4
      have h1 : ∀ e' ∈ r, eSp e' H1 σ := fun e' q => by
        have := ha.1 e' q
        exact eS_dep (g4 _ (by omega) (by omega) (by omega)) (g4 _ (by omega) (by omega) (by omega)) (g4 _ (by omega) (by omega) (by omega)) rfl rfl (hSr e' q)
      obtain ⟨H', a1, a2, a3⟩ := eww_ok ho hp hx hkr ha.2 g1 g2 h1
      have keep : ∀ u, u = e.1 ∨ u = e.1 + 1 ∨ u = e.1 + 2 → lk H' u = lk H1 u := fun u hu => a3 u (fun e' q => by
        have := ha.1 e' q
        omega)
      refine ⟨H', a1, fun e' q => ?_, fun u hu => ?_⟩
      · rcases List.mem_cons.mp q with rfl | q
        · exact eS_dep (keep _ (Or.inl rfl)) (keep _ (Or.inr (Or.inl rfl))) (keep _ (Or.inr (Or.inr rfl))) rfl rfl g3
        · exact a2 e' q
      · have u0 := hu e (List.mem_cons_self ..)
        exact (a3 u (fun e' q => hu e' (List.mem_cons_of_mem _ q))).trans (g4 u u0.1 u0.2.1 u0.2.2)
    cases e1 : Nat.beq k e.2.1 with
    | true =>
      rw [e1] at h
      have ek := Nat.eq_of_beq_eq_true e1
      simp only [cond_true] at h
      split at h
      · rename_i hl1 hw
        obtain ⟨H1, b1, b2, b3⟩ := ewH_ok (k1 := e.2.1) hk0 ho hp hx hw hh hS0
        exact go h b1 (by rw [ek]; exact b2) b3
      · cases h
    | false =>
      rw [e1] at h
      simp only [cond_false] at h
      cases e2 : Nat.beq k e.2.2.2.1 with
      | true =>
        rw [e2] at h
        have ek := Nat.eq_of_beq_eq_true e2
        simp only [cond_true] at h
        split at h
        · rename_i hl1 hw
          obtain ⟨H1, b1, b2, b3⟩ := ewM_ok (k2 := e.2.2.2.1) hk0 ho hp hx hw hh hS0
          exact go h b1 (by rw [ek]; exact b2) b3
        · cases h
      | false =>
        rw [e2] at h
        simp only [cond_false] at h
        exact go h hh (eS_dep rfl rfl rfl (zI_row (fun q => beq_ne e1 q.symm)) (zI_row (fun q => beq_ne e2 q.symm)) hS0) (fun _ _ _ _ => rfl)
noncomputable def etg (t : Nat) : Bool := Nat.ble 400 t && Nat.blt t 500
noncomputable def ceq (PE : List Ep) : Cp := (etg, (fun H σ => ∀ e ∈ PE, eSp e H σ, (fun q => PE.any fun e => Nat.beq q e.2.1 || Nat.beq q e.2.2.2.1, (fun s hl k p v => eww s k p v PE hl, nlw))))
theorem ceq_ok {T : Jx} {G : Gl} {PE : List Ep} (hk : ∀ e ∈ PE, e.2.1 ≠ e.2.2.2.1) (ha : eApt PE) (ht : ∀ e ∈ PE, 400 ≤ e.1 ∧ e.1 + 2 < 500) : CpOk T G (ceq PE) := by
  apply CpOk.no (fun _ => rfl)
  have tin : ∀ t : Nat, 400 ≤ t → t < 500 → etg t = true := fun t h1 h2 => by
    show (Nat.ble 400 t && Nat.blt t 500) = true
    rw [Bool.and_eq_true]
    exact ⟨Nat.ble_eq_true_of_le h1, Nat.ble_eq_true_of_le h2⟩
  refine ⟨fun u hu => ?_, fun H H' σ σ' h1 h2 hS e he => ?_, ?_⟩
  · have hu : (Nat.ble 400 u && Nat.blt u 500) = true := hu
    rw [Bool.and_eq_true] at hu
    have := Nat.le_of_ble_eq_true hu.1
    omega
  · have h0 := ht e he
    have g : ∀ q, Nat.beq q e.2.1 = true ∨ Nat.beq q e.2.2.2.1 = true → σ'.1 q = σ.1 q := fun q hq => h2 q (List.any_eq_true.mpr ⟨e, he, by rw [Bool.or_eq_true]; exact hq⟩)
    exact eS_dep (h1 _ (tin _ (by omega) (by omega))) (h1 _ (tin _ (by omega) (by omega))) (h1 _ (tin _ (by omega) (by omega))) (g _ (Or.inl (Nat.beq_refl _))) (g _ (Or.inr (Nat.beq_refl _))) (hS e he)
  · intro s ρ σ k p v j x hl hl' H ho hb hp hi hv hx hr hw hh hS
    obtain ⟨H', a1, a2, a3⟩ := eww_ok ho hp hx hk ha hw hh hS
    refine ⟨H', a1, a2, fun t hn => a3 t (fun e he => ?_)⟩
    have h0 := ht e he
    have nt : ¬ (400 ≤ t ∧ t < 500) := fun q => by
      rw [show (ceq PE).tg t = etg t from rfl, tin t q.1 q.2] at hn
      cases hn
    omega
/-- hint 60 for all pairs, both ways -/
noncomputable def hsAll : List Ep → Sy → Sy
  | [], s => s
  | e :: r, s => hsAll r (hsA e.1 e.2.2.2.1 e.2.2.2.2.1 e.2.1 e.2.2.1 e.2.2.2.2.2 (hsA e.1 e.2.1 e.2.2.1 e.2.2.2.1 e.2.2.2.2.1 e.2.2.2.2.2 s.me s).me (hsA e.1 e.2.1 e.2.2.1 e.2.2.2.1 e.2.2.2.2.1 e.2.2.2.2.2 s.me s))
theorem eS_at {t k1 b1 k2 b2 n : Nat} {H : List (Nat × Int)} {σ : zS} (hS : eS t k1 b1 k2 b2 n H σ) (i : Nat) (hi : i < n) (hz : ∀ z, lk H t = some z → z ≠ (i : Int)) : σ.1 k1 (b1 + i) = σ.1 k2 (b2 + i) := by
  cases q : lk H t with
  | none => exact hS.1 q i hi
  | some z =>
    obtain ⟨j, c1, c2, c3, _⟩ := hS.2 z q
    exact c3 i hi (fun e => hz z q (by rw [c1, e]))
theorem hsAll_ok {J : Jt} {ρ : List Int} {σ : zS} {H : List (Nat × Int)} : ∀ {PE : List Ep} {s : Sy}, (∀ e ∈ PE, eSp e H σ) → Ok J s ρ σ → Hl ρ s.hl H → Ok J (hsAll PE s) ρ σ ∧ (hsAll PE s).hl = s.hl
  | [], s, _, ho, _ => ⟨ho, rfl⟩
  | e :: r, s, hS, ho, hh => by
    unfold hsAll
    have hS0 := hS e (List.mem_cons_self ..)
    obtain ⟨a1, a2⟩ := hsA_ok (ka := e.2.1) (ba := e.2.2.1) (kb := e.2.2.2.1) (bb := e.2.2.2.2.1) (fun i hi hz => eS_at hS0 i hi hz) ho (fun e' q => ho.me e' q) hh
    obtain ⟨b1, b2⟩ := hsA_ok (ka := e.2.2.2.1) (ba := e.2.2.2.2.1) (kb := e.2.1) (bb := e.2.2.1) (fun i hi hz => (eS_at hS0 i hi hz).symm) a1 (fun e' q => a1.me e' q) (by rw [a2]; exact hh)
    obtain ⟨c1, c2⟩ := hsAll_ok (fun e' q => hS e' (List.mem_cons_of_mem _ q)) b1 (by rw [b2, a2]; exact hh)
    exact ⟨c1, by rw [c2, b2, a2]⟩
noncomputable def hopL (t : Nat) (a : AV) : List Ep → Sy → Sy
  | [], s => s
  | e :: r, s => bif Nat.beq e.1 t then hop e.1 e.2.2.2.1 e.2.2.2.2.1 a s else hopL t a r s
theorem hopL_ok {J : Jt} {ρ : List Int} {σ : zS} {H : List (Nat × Int)} {t : Nat} {a : AV} {y : Int} (ha : ev ρ a = some y) : ∀ {PE : List Ep} {s : Sy}, (∀ e ∈ PE, eSp e H σ) → Ok J s ρ σ → Hl ρ s.hl H → Ok J (hopL t a PE s) ρ σ
  | [], s, _, ho, _ => ho
  | e :: r, s, hS, ho, hh => by
    unfold hopL
    cases Nat.beq e.1 t with
    | true => exact hop_ok (hS e (List.mem_cons_self ..)) ho hh ha
    | false => exact hopL_ok ha (fun e' q => hS e' (List.mem_cons_of_mem _ q)) ho hh
end
end
section
noncomputable section
/-! ===== WHAT ELSE HOLDS, 28: rows of longs of both sides that hold the same ===== -/
noncomputable def lS (t k1 b1 k2 b2 n : Nat) (H : List (Nat × Int)) (σ : zS) : Prop :=
  (lk H t = none → ∀ i : Nat, i < n → σ.2 k1 (b1 + i) = σ.2 k2 (b2 + i)) ∧
  ∀ z, lk H t = some z → ∃ j : Nat, z = (j : Int) ∧ j < n ∧ ∀ i : Nat, i < n → i ≠ j → σ.2 k1 (b1 + i) = σ.2 k2 (b2 + i)
noncomputable def lth (s : Sy) (k : Nat) (r : AV) : Option AV := match mget s.me k (pl s r) with
  | some w => bif w.isL && eqA s r (pl s r) then some w else none
  | none => none
noncomputable def lwH (t b1 k2 b2 n : Nat) (s : Sy) (hl : List (Nat × AV)) (p v : AV) : Option (List (Nat × AV)) :=
  bif leAV s p (.c ((b1 : Int) - 1)) || leAV s (.c ((b1 : Int) + n)) p then some hl
  else bif leAV s (.c (b1 : Int)) p && leAV s p (.c ((b1 : Int) + n - 1)) then (match lk hl t with
    | none => match lth s k2 (shA p ((b2 : Int) - b1)) with
      | some w => bif eqA s v w then some hl else some (hset t (shA p (-(b1 : Int))) hl)
      | none => some (hset t (shA p (-(b1 : Int))) hl)
    | some x => bif eqA s x (shA p (-(b1 : Int))) then some hl else none)
  else none
noncomputable def lwM (t k1 b1 b2 n : Nat) (s : Sy) (hl : List (Nat × AV)) (p v : AV) : Option (List (Nat × AV)) :=
  bif leAV s p (.c ((b2 : Int) - 1)) || leAV s (.c ((b2 : Int) + n)) p then some hl
  else bif leAV s (.c (b2 : Int)) p && leAV s p (.c ((b2 : Int) + n - 1)) then (match lth s k1 (shA p ((b1 : Int) - b2)) with
    | some w => bif eqA s v w then (match lk hl t with
      | none => some hl
      | some x => bif eqA s x (shA p (-(b2 : Int))) then some (hdel t hl) else none) else none
    | none => none)
  else none
section C28
variable {J : Jt} {s : Sy} {ρ : List Int} {σ : zS}
theorem me_atL {k j : Nat} {p w : AV} (ho : Ok J s ρ σ) (hm : mget s.me k p = some w) (hp : ev ρ p = some (j : Int)) (hw : w.isL = true) : ev ρ w = some (σ.2 k j).toInt := by
  obtain ⟨j', e1, e2⟩ := ho.me _ (mget_mem hm)
  have ej : j' = j := by
    have := Option.some.inj (e1.symm.trans hp)
    omega
  subst ej
  rcases e2 with ⟨q, _⟩ | ⟨_, e2⟩
  · exact (isI_L q hw).elim
  · exact e2
theorem lth_ok (ho : Ok J s ρ σ) {k j : Nat} {r w : AV} (h : lth s k r = some w) (hr : ev ρ r = some (j : Int)) : w.isL = true ∧ ev ρ w = some (σ.2 k j).toInt := by
  unfold lth at h
  split at h
  · rename_i w' hm
    cases hc : w'.isL && eqA s r (pl s r) with
    | false => rw [hc] at h; cases h
    | true =>
      rw [hc] at h
      cases Option.some.inj h
      rw [Bool.and_eq_true] at hc
      obtain ⟨j', q1, q2⟩ := ho.me _ (mget_mem hm)
      have e := eqA_ok ho hc.2 hr q1
      have ej : j' = j := by omega
      subst ej
      exact ⟨hc.1, me_atL ho hm q1 hc.1⟩
  · cases h
theorem lwH_ok {t k1 b1 k2 b2 n j : Nat} {p v : AV} {x : Int64} {hl hl' : List (Nat × AV)} {H : List (Nat × Int)} (hk : k1 ≠ k2) (ho : Ok J s ρ σ) (hp : ev ρ p = some (j : Int)) (hx : ev ρ v = some x.toInt) (hw : lwH t b1 k2 b2 n s hl p v = some hl') (hh : Hl ρ hl H) (hS : lS t k1 b1 k2 b2 n H σ) : ∃ H', Hl ρ hl' H' ∧ lS t k1 b1 k2 b2 n H' (zJ σ k1 j x) ∧ ∀ u, u ≠ t → lk H' u = lk H u := by
  have base : ∀ i : Nat, b1 + i ≠ j → (zJ σ k1 j x).2 k1 (b1 + i) = σ.2 k1 (b1 + i) := fun i h => zJ_ne (by rintro ⟨_, q⟩; exact h q)
  have row2 : (zJ σ k1 j x).2 k2 = σ.2 k2 := zJ_row hk.symm
  unfold lwH at hw
  cases e1 : leAV s p (.c ((b1 : Int) - 1)) || leAV s (.c ((b1 : Int) + n)) p with
  | true =>
    rw [e1] at hw
    cases Option.some.inj hw
    have out : ∀ i : Nat, i < n → b1 + i ≠ j := by
      intro i hi
      rw [Bool.or_eq_true] at e1
      rcases e1 with e1 | e1
      · have := leAV_ok ho e1 hp (y := (b1 : Int) - 1) rfl
        omega
      · have := leAV_ok ho e1 (x := (b1 : Int) + n) rfl hp
        omega
    refine ⟨H, hh, ⟨fun q i hi => by rw [base i (out i hi), row2]; exact hS.1 q i hi, fun z q => ?_⟩, fun _ _ => rfl⟩
    obtain ⟨i0, c1, c2, c3⟩ := hS.2 z q
    exact ⟨i0, c1, c2, fun i hi hne => by rw [base i (out i hi), row2]; exact c3 i hi hne⟩
  | false =>
    rw [e1] at hw
    simp only [cond_false] at hw
    cases e2 : leAV s (.c (b1 : Int)) p && leAV s p (.c ((b1 : Int) + n - 1)) with
    | false => rw [e2] at hw; cases hw
    | true =>
      rw [e2] at hw
      simp only [cond_true] at hw
      rw [Bool.and_eq_true] at e2
      have g1 := leAV_ok ho e2.1 (x := (b1 : Int)) rfl hp
      have g2 := leAV_ok ho e2.2 hp (y := (b1 : Int) + n - 1) rfl
      obtain ⟨i0, hi0⟩ : ∃ i0 : Nat, j = b1 + i0 := ⟨j - b1, by omega⟩
      have hlt : i0 < n := by omega
      subst hi0
      have hpa : ev ρ (shA p (-(b1 : Int))) = some (i0 : Int) := (shA_ev hp).trans (congrArg some (by omega))
      have hpr : ev ρ (shA p ((b2 : Int) - b1)) = some ((b2 + i0 : Nat) : Int) := (shA_ev hp).trans (congrArg some (by omega))
      have new : (zJ σ k1 (b1 + i0) x).2 k1 (b1 + i0) = x := zJ_at
      have rest : (∀ i : Nat, i < n → i ≠ i0 → σ.2 k1 (b1 + i) = σ.2 k2 (b2 + i)) → ∀ i : Nat, i < n → i ≠ i0 → (zJ σ k1 (b1 + i0) x).2 k1 (b1 + i) = (zJ σ k1 (b1 + i0) x).2 k2 (b2 + i) := fun h i hi hne => by rw [base i (by omega), row2]; exact h i hi hne
      have opens : lk H t = none → some (hset t (shA p (-(b1 : Int))) hl) = some hl' → ∃ H', Hl ρ hl' H' ∧ lS t k1 b1 k2 b2 n H' (zJ σ k1 (b1 + i0) x) ∧ ∀ u, u ≠ t → lk H' u = lk H u := by
        intro q2 hw
        cases Option.some.inj hw
        refine ⟨hset t (i0 : Int) H, hh.set hpa, ⟨fun q => ?_, fun z q => ?_⟩, fun u u0 => ?_⟩
        · rw [lk_hset, if_pos rfl] at q; cases q
        · rw [lk_hset, if_pos rfl] at q
          cases Option.some.inj q
          exact ⟨i0, rfl, hlt, rest (fun i hi _ => hS.1 q2 i hi)⟩
        · rw [lk_hset, if_neg u0]
      rcases hh.lkp (t := t) with ⟨q1, q2⟩ | ⟨a, z, q1, q2, q3⟩
      · rw [q1] at hw
        have all := hS.1 q2
        cases e3 : lth s k2 (shA p ((b2 : Int) - b1)) with
        | none => rw [e3] at hw; exact opens q2 hw
        | some w =>
          obtain ⟨w1, w2⟩ := lth_ok ho e3 hpr
          rw [e3] at hw
          replace hw : (bif eqA s v w then some hl else some (hset t (shA p (-(b1 : Int))) hl)) = some hl' := hw
          cases e4 : eqA s v w with
          | true =>
            rw [e4] at hw
            cases Option.some.inj hw
            have exw : x = σ.2 k2 (b2 + i0) := Int64.toInt_inj.mp (eqA_ok ho e4 hx w2)
            refine ⟨H, hh, ⟨fun _ i hi => ?_, fun z q => by rw [q2] at q; cases q⟩, fun _ _ => rfl⟩
            by_cases e : i = i0
            · rw [e, new, row2]; exact exw
            · exact rest (fun i hi _ => all i hi) i hi e
          | false => rw [e4] at hw; exact opens q2 hw
      · rw [q1] at hw
        replace hw : (bif eqA s a (shA p (-(b1 : Int))) then some hl else none) = some hl' := hw
        cases e3 : eqA s a (shA p (-(b1 : Int))) with
        | false => rw [e3] at hw; cases hw
        | true =>
          rw [e3] at hw
          cases Option.some.inj hw
          have ez := eqA_ok ho e3 q3 hpa
          obtain ⟨i1, c1, c2, c3⟩ := hS.2 z q2
          have e01 : i1 = i0 := by omega
          subst e01
          exact ⟨H, hh, ⟨fun q => (by rw [q2] at q; cases q), fun z' q => (by rw [q2] at q; cases Option.some.inj q; exact ⟨i1, c1, c2, rest c3⟩)⟩, fun _ _ => rfl⟩
theorem lwM_ok {t k1 b1 k2 b2 n j : Nat} {p v : AV} {x : Int64} {hl hl' : List (Nat × AV)} {H : List (Nat × Int)} (hk : k1 ≠ k2) (ho : Ok J s ρ σ) (hp : ev ρ p = some (j : Int)) (hx : ev ρ v = some x.toInt) (hw : lwM t k1 b1 b2 n s hl p v = some hl') (hh : Hl ρ hl H) (hS : lS t k1 b1 k2 b2 n H σ) : ∃ H', Hl ρ hl' H' ∧ lS t k1 b1 k2 b2 n H' (zJ σ k2 j x) ∧ ∀ u, u ≠ t → lk H' u = lk H u := by
  have base : ∀ i : Nat, b2 + i ≠ j → (zJ σ k2 j x).2 k2 (b2 + i) = σ.2 k2 (b2 + i) := fun i h => zJ_ne (by rintro ⟨_, q⟩; exact h q)
  have row1 : (zJ σ k2 j x).2 k1 = σ.2 k1 := zJ_row hk
  unfold lwM at hw
  cases e1 : leAV s p (.c ((b2 : Int) - 1)) || leAV s (.c ((b2 : Int) + n)) p with
  | true =>
    rw [e1] at hw
    cases Option.some.inj hw
    have out : ∀ i : Nat, i < n → b2 + i ≠ j := by
      intro i hi
      rw [Bool.or_eq_true] at e1
      rcases e1 with e1 | e1
      · have := leAV_ok ho e1 hp (y := (b2 : Int) - 1) rfl
        omega
      · have := leAV_ok ho e1 (x := (b2 : Int) + n) rfl hp
        omega
    refine ⟨H, hh, ⟨fun q i hi => by rw [base i (out i hi), row1]; exact hS.1 q i hi, fun z q => ?_⟩, fun _ _ => rfl⟩
    obtain ⟨i0, c1, c2, c3⟩ := hS.2 z q
    exact ⟨i0, c1, c2, fun i hi hne => by rw [base i (out i hi), row1]; exact c3 i hi hne⟩
  | false =>
    rw [e1] at hw
    simp only [cond_false] at hw
    cases e2 : leAV s (.c (b2 : Int)) p && leAV s p (.c ((b2 : Int) + n - 1)) with
    | false => rw [e2] at hw; cases hw
    | true =>
      rw [e2] at hw
      simp only [cond_true] at hw
      rw [Bool.and_eq_true] at e2
      have g1 := leAV_ok ho e2.1 (x := (b2 : Int)) rfl hp
      have g2 := leAV_ok ho e2.2 hp (y := (b2 : Int) + n - 1) rfl
      obtain ⟨i0, hi0⟩ : ∃ i0 : Nat, j = b2 + i0 := ⟨j - b2, by omega⟩
      have hlt : i0 < n := by omega
      subst hi0
      have hpa : ev ρ (shA p (-(b2 : Int))) = some (i0 : Int) := (shA_ev hp).trans (congrArg some (by omega))
      have hpr : ev ρ (shA p ((b1 : Int) - b2)) = some ((b1 + i0 : Nat) : Int) := (shA_ev hp).trans (congrArg some (by omega))
      have new : (zJ σ k2 (b2 + i0) x).2 k2 (b2 + i0) = x := zJ_at
      have rest : (∀ i : Nat, i < n → i ≠ i0 → σ.2 k1 (b1 + i) = σ.2 k2 (b2 + i)) → ∀ i : Nat, i < n → i ≠ i0 → (zJ σ k2 (b2 + i0) x).2 k1 (b1 + i) = (zJ σ k2 (b2 + i0) x).2 k2 (b2 + i) := fun h i hi hne => by rw [base i (by omega), row1]; exact h i hi hne
      cases e3 : lth s k1 (shA p ((b1 : Int) - b2)) with
      | none => rw [e3] at hw; cases hw
      | some w =>
        obtain ⟨w1, w2⟩ := lth_ok ho e3 hpr
        rw [e3] at hw
        replace hw : (bif eqA s v w then (match lk hl t with
          | none => some hl
          | some x => bif eqA s x (shA p (-(b2 : Int))) then some (hdel t hl) else none) else none) = some hl' := hw
        cases e4 : eqA s v w with
        | false => rw [e4] at hw; cases hw
        | true =>
          rw [e4] at hw
          simp only [cond_true] at hw
          have exw : x = σ.2 k1 (b1 + i0) := Int64.toInt_inj.mp (eqA_ok ho e4 hx w2)
          rcases hh.lkp (t := t) with ⟨q1, q2⟩ | ⟨a, z, q1, q2, q3⟩
          · rw [q1] at hw
            cases Option.some.inj hw
            refine ⟨H, hh, ⟨fun _ i hi => ?_, fun z q => by rw [q2] at q; cases q⟩, fun _ _ => rfl⟩
            by_cases e : i = i0
            · rw [e, new, row1]; exact exw.symm
            · exact rest (fun i hi _ => hS.1 q2 i hi) i hi e
          · rw [q1] at hw
            replace hw : (bif eqA s a (shA p (-(b2 : Int))) then some (hdel t hl) else none) = some hl' := hw
            cases e5 : eqA s a (shA p (-(b2 : Int))) with
            | false => rw [e5] at hw; cases hw
            | true =>
              rw [e5] at hw
              cases Option.some.inj hw
              have ez := eqA_ok ho e5 q3 hpa
              obtain ⟨i1, c1, c2, c3⟩ := hS.2 z q2
              have e01 : i1 = i0 := by omega
              subst e01
              refine ⟨hdel t H, hh.del, ⟨fun _ i hi => ?_, fun z' q => ?_⟩, fun u u0 => ?_⟩
              · by_cases e : i = i1
                · rw [e, new, row1]; exact exw.symm
                · exact rest c3 i hi e
              · rw [lk_hdel, if_pos rfl] at q; cases q
              · rw [lk_hdel, if_neg u0]
end C28
noncomputable def hsL (t ka ba kb bb n : Nat) : List (Nat × (AV × AV)) → Sy → Sy
  | [], s => s
  | e :: r, s => hsL t ka ba kb bb n r (bif (Nat.beq e.1 ka && e.2.2.isL) && ((leAV s (.c (ba : Int)) e.2.1 && leAV s e.2.1 (.c ((ba : Int) + n - 1))) && ((match lk s.hl t with
      | none => true
      | some x => leAV s (shA x 1) (shA e.2.1 (-(ba : Int))) || leAV s (shA e.2.1 (1 - (ba : Int))) x) && (!(isS (mget s.me kb (pl s (shA e.2.1 ((bb : Int) - ba))))) && eqA s (shA e.2.1 ((bb : Int) - ba)) (pl s (shA e.2.1 ((bb : Int) - ba))))))
    then s.add kb (pl s (shA e.2.1 ((bb : Int) - ba))) e.2.2 else s)
theorem hsL_ok {J : Jt} {ρ : List Int} {σ : zS} {t ka ba kb bb n : Nat} {H : List (Nat × Int)} (hS : ∀ i : Nat, i < n → (∀ z, lk H t = some z → z ≠ (i : Int)) → σ.2 ka (ba + i) = σ.2 kb (bb + i)) : ∀ {es : List (Nat × (AV × AV))} {s : Sy}, Ok J s ρ σ → (∀ e ∈ es, Mf ρ σ e) → Hl ρ s.hl H → Ok J (hsL t ka ba kb bb n es s) ρ σ ∧ (hsL t ka ba kb bb n es s).hl = s.hl
  | [], s, ho, _, _ => ⟨ho, rfl⟩
  | e :: r, s, ho, hes, hh => by
    unfold hsL
    have rest := fun e' he' => hes e' (List.mem_cons_of_mem e he')
    cases hb : (Nat.beq e.1 ka && e.2.2.isL) && ((leAV s (.c (ba : Int)) e.2.1 && leAV s e.2.1 (.c ((ba : Int) + n - 1))) && ((match lk s.hl t with
      | none => true
      | some x => leAV s (shA x 1) (shA e.2.1 (-(ba : Int))) || leAV s (shA e.2.1 (1 - (ba : Int))) x) && (!(isS (mget s.me kb (pl s (shA e.2.1 ((bb : Int) - ba))))) && eqA s (shA e.2.1 ((bb : Int) - ba)) (pl s (shA e.2.1 ((bb : Int) - ba)))))) with
    | false => exact hsL_ok hS ho rest hh
    | true =>
      simp only [cond_true]
      simp only [Bool.and_eq_true] at hb
      obtain ⟨⟨b1, b2⟩, ⟨b3, b4⟩, b5, b6, b7⟩ := hb
      have hk := Nat.eq_of_beq_eq_true b1
      obtain ⟨j, f1, f2⟩ := hes e (List.mem_cons_self ..)
      have f3 : ev ρ e.2.2 = some (σ.2 ka j).toInt := by
        rw [← hk]
        rcases f2 with ⟨q, _⟩ | ⟨_, f2⟩
        · exact (isI_L q b2).elim
        · exact f2
      have g1 := leAV_ok ho b3 (x := (ba : Int)) rfl f1
      have g2 := leAV_ok ho b4 f1 (y := (ba : Int) + n - 1) rfl
      obtain ⟨i, hi⟩ : ∃ i : Nat, j = ba + i := ⟨j - ba, by omega⟩
      subst hi
      have hlt : i < n := by omega
      have hr : ev ρ (shA e.2.1 ((bb : Int) - ba)) = some ((bb + i : Nat) : Int) := (shA_ev f1).trans (congrArg some (by omega))
      obtain ⟨y, hy⟩ := pl_ev (s := s) hr
      have ey := eqA_ok ho b7 hr hy
      have hne : ∀ z, lk H t = some z → z ≠ (i : Int) := by
        intro z hz
        rcases hh.lkp (t := t) with ⟨q1, q2⟩ | ⟨a, z', q1, q2, q3⟩
        · rw [q2] at hz; cases hz
        · rw [q2] at hz
          cases Option.some.inj hz
          rw [q1] at b5
          replace b5 : (leAV s (shA a 1) (shA e.2.1 (-(ba : Int))) || leAV s (shA e.2.1 (1 - (ba : Int))) a) = true := b5
          rw [Bool.or_eq_true] at b5
          rcases b5 with b5 | b5
          · have := leAV_ok ho b5 (shA_ev q3) (shA_ev f1)
            omega
          · have := leAV_ok ho b5 (shA_ev f1) q3
            omega
      have hE := hS i hlt hne
      have hm : Mf ρ σ (kb, (pl s (shA e.2.1 ((bb : Int) - ba)), e.2.2)) := ⟨bb + i, by rw [hy, ← ey], Or.inr ⟨b2, by rw [f3, hE]⟩⟩
      exact hsL_ok hS (ho.addm hm) rest hh
theorem lS_dep {t k1 b1 k2 b2 n : Nat} {H H' : List (Nat × Int)} {σ σ' : zS} (h0 : lk H' t = lk H t) (r1 : σ'.2 k1 = σ.2 k1) (r2 : σ'.2 k2 = σ.2 k2) (hS : lS t k1 b1 k2 b2 n H σ) : lS t k1 b1 k2 b2 n H' σ' := by
  refine ⟨fun q i hi => ?_, fun z q => ?_⟩
  · rw [r1, r2]
    exact hS.1 (by rw [← h0]; exact q) i hi
  · obtain ⟨j, c1, c2, c3⟩ := hS.2 z (by rw [← h0]; exact q)
    exact ⟨j, c1, c2, fun i hi hne => by rw [r1, r2]; exact c3 i hi hne⟩
noncomputable abbrev lSp (e : Ep) (H : List (Nat × Int)) (σ : zS) : Prop := lS e.1 e.2.1 e.2.2.1 e.2.2.2.1 e.2.2.2.2.1 e.2.2.2.2.2 H σ
noncomputable def lww (s : Sy) (k : Nat) (p v : AV) : List Ep → List (Nat × AV) → Option (List (Nat × AV))
  | [], hl => some hl
  | e :: r, hl => bif Nat.beq k e.2.1 then (match lwH e.1 e.2.2.1 e.2.2.2.1 e.2.2.2.2.1 e.2.2.2.2.2 s hl p v with
      | some hl' => lww s k p v r hl'
      | none => none)
    else bif Nat.beq k e.2.2.2.1 then (match lwM e.1 e.2.1 e.2.2.1 e.2.2.2.2.1 e.2.2.2.2.2 s hl p v with
      | some hl' => lww s k p v r hl'
      | none => none)
    else lww s k p v r hl
theorem lww_ok {J : Jt} {s : Sy} {ρ : List Int} {σ : zS} {k j : Nat} {p v : AV} {x : Int64} (ho : Ok J s ρ σ) (hp : ev ρ p = some (j : Int)) (hx : ev ρ v = some x.toInt) : ∀ {PE : List Ep} {hl hl' : List (Nat × AV)} {H : List (Nat × Int)}, (∀ e ∈ PE, e.2.1 ≠ e.2.2.2.1) → eApt PE → lww s k p v PE hl = some hl' → Hl ρ hl H → (∀ e ∈ PE, lSp e H σ) → ∃ H', Hl ρ hl' H' ∧ (∀ e ∈ PE, lSp e H' (zJ σ k j x)) ∧ ∀ u, (∀ e ∈ PE, u ≠ e.1) → lk H' u = lk H u
  | [], hl, hl', H, _, _, h, hh, _ => by
    cases Option.some.inj h
    exact ⟨H, hh, fun e he => (by cases he), fun _ _ => rfl⟩
  | e :: r, hl, hl', H, hk, ha, h, hh, hS => by
    have hk0 := hk e (List.mem_cons_self ..)
    have hkr : ∀ e' ∈ r, e'.2.1 ≠ e'.2.2.2.1 := fun e' q => hk e' (List.mem_cons_of_mem _ q)
    have hS0 := hS e (List.mem_cons_self ..)
    have hSr : ∀ e' ∈ r, lSp e' H σ := fun e' q => hS e' (List.mem_cons_of_mem _ q)
    unfold lww at h
    have go : ∀ {hl1 : List (Nat × AV)} {H1 : List (Nat × Int)}, lww s k p v r hl1 = some hl' → Hl ρ hl1 H1 → lSp e H1 (zJ σ k j x) → (∀ u, u ≠ e.1 → lk H1 u = lk H u) → ∃ H', Hl ρ hl' H' ∧ (∀ e' ∈ e :: r, lSp e' H' (zJ σ k j x)) ∧ ∀ u, (∀ e' ∈ e :: r, u ≠ e'.1) → lk H' u = lk H u := by
      intro hl1 H1 g1 g2 g3 g4
      have h1 : ∀ e' ∈ r, lSp e' H1 σ := fun e' q => by
        have := ha.1 e' q
        exact lS_dep (g4 _ (by omega)) rfl rfl (hSr e' q)
      obtain ⟨H', a1, a2, a3⟩ := lww_ok ho hp hx hkr ha.2 g1 g2 h1
      refine ⟨H', a1, fun e' q => ?_, fun u hu => ?_⟩
      · rcases List.mem_cons.mp q with rfl | q
        · exact lS_dep (a3 _ (fun e'' q => by have := ha.1 e'' q; omega)) rfl rfl g3
        · exact a2 e' q
      · exact (a3 u (fun e' q => hu e' (List.mem_cons_of_mem _ q))).trans (g4 u (hu e (List.mem_cons_self ..)))
    cases e1 : Nat.beq k e.2.1 with
    | true =>
      rw [e1] at h
      have ek := Nat.eq_of_beq_eq_true e1
      simp only [cond_true] at h
      split at h
      · rename_i hl1 hw
        obtain ⟨H1, b1, b2, b3⟩ := lwH_ok (k1 := e.2.1) hk0 ho hp hx hw hh hS0
        exact go h b1 (by rw [ek]; exact b2) b3
      · cases h
    | false =>
      rw [e1] at h
      simp only [cond_false] at h
      cases e2 : Nat.beq k e.2.2.2.1 with
      | true =>
        rw [e2] at h
        have ek := Nat.eq_of_beq_eq_true e2
        simp only [cond_true] at h
        split at h
        · rename_i hl1 hw
          obtain ⟨H1, b1, b2, b3⟩ := lwM_ok (k2 := e.2.2.2.1) hk0 ho hp hx hw hh hS0
          exact go h b1 (by rw [ek]; exact b2) b3
        · cases h
      | false =>
        rw [e2] at h
        simp only [cond_false] at h
        exact go h hh (lS_dep rfl (zJ_row (fun q => beq_ne e1 q.symm)) (zJ_row (fun q => beq_ne e2 q.symm)) hS0) (fun _ _ => rfl)
noncomputable def ltg (t : Nat) : Bool := Nat.ble 600 t && Nat.blt t 800
noncomputable def ceqL (PE : List Ep) : Cp := (ltg, (fun H σ => ∀ e ∈ PE, lSp e H σ, (fun _ => false, (fun _ hl _ _ _ => some hl, (fun q => PE.any fun e => Nat.beq q e.2.1 || Nat.beq q e.2.2.2.1, fun s hl k p v => lww s k p v PE hl)))))
theorem ceqL_ok {T : Jx} {G : Gl} {PE : List Ep} (hk : ∀ e ∈ PE, e.2.1 ≠ e.2.2.2.1) (ha : eApt PE) (ht : ∀ e ∈ PE, 600 ≤ e.1 ∧ e.1 < 800) : CpOk T G (ceqL PE) := by
  have tin : ∀ t : Nat, 600 ≤ t → t < 800 → ltg t = true := fun t h1 h2 => by
    show (Nat.ble 600 t && Nat.blt t 800) = true
    rw [Bool.and_eq_true]
    exact ⟨Nat.ble_eq_true_of_le h1, Nat.ble_eq_true_of_le h2⟩
  refine ⟨fun u hu => ?_, fun H H' σ σ' h1 _ h2 hS e he => ?_, fun s ρ σ k p v j x hl hl' H _ _ _ _ _ _ hr => (by cases hr), ?_⟩
  · have hu : (Nat.ble 600 u && Nat.blt u 800) = true := hu
    rw [Bool.and_eq_true] at hu
    have := Nat.le_of_ble_eq_true hu.1
    omega
  · have h0 := ht e he
    have g : ∀ q, Nat.beq q e.2.1 = true ∨ Nat.beq q e.2.2.2.1 = true → σ'.2 q = σ.2 q := fun q hq => h2 q (List.any_eq_true.mpr ⟨e, he, by rw [Bool.or_eq_true]; exact hq⟩)
    exact lS_dep (h1 _ (tin _ h0.1 h0.2)) (g _ (Or.inl (Nat.beq_refl _))) (g _ (Or.inr (Nat.beq_refl _))) (hS e he)
  · intro s ρ σ k p v j x hl hl' H ho hp hi hv hx hr hw hh hS
    obtain ⟨H', a1, a2, a3⟩ := lww_ok ho hp hx hk ha hw hh hS
    refine ⟨H', a1, a2, fun t hn => a3 t (fun e he => ?_)⟩
    have h0 := ht e he
    have nt : ¬ (600 ≤ t ∧ t < 800) := fun q => by
      rw [show (ceqL PE).tg t = ltg t from rfl, tin t q.1 q.2] at hn
      cases hn
    omega
noncomputable def hsAllL : List Ep → Sy → Sy
  | [], s => s
  | e :: r, s => hsAllL r (hsL e.1 e.2.2.2.1 e.2.2.2.2.1 e.2.1 e.2.2.1 e.2.2.2.2.2 (hsL e.1 e.2.1 e.2.2.1 e.2.2.2.1 e.2.2.2.2.1 e.2.2.2.2.2 s.me s).me (hsL e.1 e.2.1 e.2.2.1 e.2.2.2.1 e.2.2.2.2.1 e.2.2.2.2.2 s.me s))
theorem lS_at {t k1 b1 k2 b2 n : Nat} {H : List (Nat × Int)} {σ : zS} (hS : lS t k1 b1 k2 b2 n H σ) (i : Nat) (hi : i < n) (hz : ∀ z, lk H t = some z → z ≠ (i : Int)) : σ.2 k1 (b1 + i) = σ.2 k2 (b2 + i) := by
  cases q : lk H t with
  | none => exact hS.1 q i hi
  | some z =>
    obtain ⟨j, c1, c2, c3⟩ := hS.2 z q
    exact c3 i hi (fun e => hz z q (by rw [c1, e]))
theorem hsAllL_ok {J : Jt} {ρ : List Int} {σ : zS} {H : List (Nat × Int)} : ∀ {PE : List Ep} {s : Sy}, (∀ e ∈ PE, lSp e H σ) → Ok J s ρ σ → Hl ρ s.hl H → Ok J (hsAllL PE s) ρ σ ∧ (hsAllL PE s).hl = s.hl
  | [], s, _, ho, _ => ⟨ho, rfl⟩
  | e :: r, s, hS, ho, hh => by
    unfold hsAllL
    have hS0 := hS e (List.mem_cons_self ..)
    obtain ⟨a1, a2⟩ := hsL_ok (ka := e.2.1) (ba := e.2.2.1) (kb := e.2.2.2.1) (bb := e.2.2.2.2.1) (fun i hi hz => lS_at hS0 i hi hz) ho (fun e' q => ho.me e' q) hh
    obtain ⟨b1, b2⟩ := hsL_ok (ka := e.2.2.2.1) (ba := e.2.2.2.2.1) (kb := e.2.1) (bb := e.2.2.1) (fun i hi hz => (lS_at hS0 i hi hz).symm) a1 (fun e' q => a1.me e' q) (by rw [a2]; exact hh)
    obtain ⟨c1, c2⟩ := hsAllL_ok (fun e' q => hS e' (List.mem_cons_of_mem _ q)) b1 (by rw [b2, a2]; exact hh)
    exact ⟨c1, by rw [c2, b2, a2]⟩
end
end
section
noncomputable section
/-! ===== WHAT ELSE HOLDS, 29: a cell that stays; begun where there are two things; who bears; chains ===== -/
noncomputable def ck (k j : Nat) (x : Int) : Cp := (fun _ => false, (fun _ σ => (σ.1 k j).toInt = x, (fun q => Nat.beq q k, (fun s hl _ p v => bif leAV s (shA p 1) (.c (j : Int)) || (leAV s (.c ((j : Int) + 1)) p || eqA s v (.c x)) then some hl else none, nlw))))
theorem ck_ok {T : Jx} {G : Gl} {k j : Nat} {x : Int} : CpOk T G (ck k j x) := by
  apply CpOk.no (fun _ => rfl)
  refine ⟨fun u hu => (by cases hu), fun H H' σ σ' _ h2 hS => ?_, ?_⟩
  · show (σ'.1 k j).toInt = x
    rw [h2 k (Nat.beq_refl k)]
    exact hS
  · intro s ρ σ k' p v j' y hl hl' H ho hb hp hi hv hx hr hw hh hS
    have ek : k' = k := Nat.eq_of_beq_eq_true hr
    subst ek
    replace hw : (bif leAV s (shA p 1) (.c (j : Int)) || (leAV s (.c ((j : Int) + 1)) p || eqA s v (.c x)) then some hl else none) = some hl' := hw
    cases hc : leAV s (shA p 1) (.c (j : Int)) || (leAV s (.c ((j : Int) + 1)) p || eqA s v (.c x)) with
    | false => rw [hc] at hw; cases hw
    | true =>
      rw [hc] at hw
      cases Option.some.inj hw
      refine ⟨H, hh, ?_, fun _ _ => rfl⟩
      show ((zI σ k' j' y).1 k' j).toInt = x
      have ne : j' ≠ j → ((zI σ k' j' y).1 k' j).toInt = x := fun h => by rw [zI_ne (by rintro ⟨_, q⟩; exact h q.symm)]; exact hS
      simp only [Bool.or_eq_true] at hc
      rcases hc with hc | hc | hc
      · have := leAV_ok ho hc (shA_ev hp) (y := (j : Int)) rfl
        exact ne (by omega)
      · have := leAV_ok ho hc (x := (j : Int) + 1) rfl hp
        exact ne (by omega)
      · by_cases e : j' = j
        · subst e
          rw [zI_at]
          exact eqA_ok ho hc hx (y := x) rfl
        · exact ne e
/-- begun, or one thing at most -/
noncomputable def nw (kF jB jT : Nat) (s : Sy) (hl : List (Nat × AV)) (p v : AV) : Option (List (Nat × AV)) := match p with
  | .inr (.inl (.ofNat j)) => bif Nat.beq j jB then (bif eqA s v (.c 1) then some hl else none)
    else bif Nat.beq j jT then (bif leAV s v (.c 1) then some hl else match mget s.me kF (.c (jB : Int)) with
      | some w => bif w.isI && eqA s w (.c 1) then some hl else none
      | none => none)
    else some hl
  | _ => none
noncomputable def cn (kF jB jT : Nat) : Cp := (fun _ => false, (fun _ σ => (σ.1 kF jB).toInt = 1 ∨ (σ.1 kF jT).toInt ≤ 1, (fun q => Nat.beq q kF, (fun s hl _ p v => nw kF jB jT s hl p v, nlw))))
theorem cn_ok {T : Jx} {G : Gl} {kF jB jT : Nat} (hd : jB ≠ jT) : CpOk T G (cn kF jB jT) := by
  apply CpOk.no (fun _ => rfl)
  refine ⟨fun u hu => (by cases hu), fun H H' σ σ' _ h2 hS => ?_, ?_⟩
  · show (σ'.1 kF jB).toInt = 1 ∨ (σ'.1 kF jT).toInt ≤ 1
    rw [h2 kF (Nat.beq_refl kF)]
    exact hS
  · intro s ρ σ k p v j x hl hl' H ho hb hp hi hv hx hr hw hh hS
    have ek : k = kF := Nat.eq_of_beq_eq_true hr
    subst ek
    replace hw : nw k jB jT s hl p v = some hl' := hw
    replace hS : (σ.1 k jB).toInt = 1 ∨ (σ.1 k jT).toInt ≤ 1 := hS
    unfold nw at hw
    suffices hg : hl' = hl ∧ (((zI σ k j x).1 k jB).toInt = 1 ∨ ((zI σ k j x).1 k jT).toInt ≤ 1) by
      rw [hg.1]
      exact ⟨H, hh, hg.2, fun _ _ => rfl⟩
    split at hw
    · rename_i j0
      have ej : j0 = j := by
        have : ((j0 : Nat) : Int) = (j : Int) := Option.some.inj hp
        omega
      subst ej
      cases e1 : Nat.beq j0 jB with
      | true =>
        have eb := Nat.eq_of_beq_eq_true e1
        subst eb
        rw [e1] at hw
        simp only [cond_true] at hw
        cases e2 : eqA s v (.c 1) with
        | false => rw [e2] at hw; cases hw
        | true =>
          rw [e2] at hw
          cases Option.some.inj hw
          exact ⟨rfl, Or.inl (by rw [zI_at]; exact eqA_ok ho e2 hx (y := 1) rfl)⟩
      | false =>
        have nb : j0 ≠ jB := beq_ne e1
        rw [e1] at hw
        simp only [cond_false] at hw
        have kb : (zI σ k j0 x).1 k jB = σ.1 k jB := zI_ne (by rintro ⟨_, q⟩; exact nb q.symm)
        cases e2 : Nat.beq j0 jT with
        | false =>
          have nt : j0 ≠ jT := beq_ne e2
          rw [e2] at hw
          cases Option.some.inj hw
          rw [kb, zI_ne (by rintro ⟨_, q⟩; exact nt q.symm)]
          exact ⟨rfl, hS⟩
        | true =>
          have et := Nat.eq_of_beq_eq_true e2
          subst et
          rw [e2] at hw
          simp only [cond_true] at hw
          cases e3 : leAV s v (.c 1) with
          | true =>
            rw [e3] at hw
            cases Option.some.inj hw
            exact ⟨rfl, Or.inr (by rw [zI_at]; exact leAV_ok ho e3 hx (y := 1) rfl)⟩
          | false =>
            rw [e3] at hw
            simp only [cond_false] at hw
            split at hw
            · rename_i w hm
              cases e4 : w.isI && eqA s w (.c 1) with
              | false => rw [e4] at hw; cases hw
              | true =>
                rw [e4] at hw
                cases Option.some.inj hw
                rw [Bool.and_eq_true] at e4
                exact ⟨rfl, Or.inl (by rw [kb]; exact eqA_ok ho e4.2 (me_at ho hm rfl e4.1) (y := 1) rfl)⟩
            · cases hw
    · cases hw
/-- who bears: below 511 no place but 0 is in 510 and not gone; 512 is and isn't -/
noncomputable def bS (kP kG : Nat) (H : List (Nat × Int)) (σ : zS) : Prop :=
  (∀ t x, lk H 510 = some t → lk H 511 = some x → ∀ i : Nat, 1 ≤ i → (i : Int) < x → ¬ ((σ.1 kP i).toInt = t ∧ (σ.1 kG i).toInt ≤ 0)) ∧
  ∀ t w, lk H 510 = some t → lk H 512 = some w → ∃ i : Nat, w = (i : Int) ∧ 1 ≤ i ∧ (σ.1 kP i).toInt = t ∧ (σ.1 kG i).toInt ≤ 0
noncomputable def btg (t : Nat) : Bool := Nat.ble 510 t && Nat.ble t 512
noncomputable def cb (kP kG : Nat) : Cp := (btg, (bS kP kG, (fun q => Nat.beq q kP || Nat.beq q kG, (fun s hl _ p _ => bif leAV s p (.c 0) || !(isS (lk hl 510)) then some hl else none, nlw))))
theorem cb_ok {T : Jx} {G : Gl} {kP kG : Nat} : CpOk T G (cb kP kG) := by
  apply CpOk.no (fun _ => rfl)
  have tin : ∀ u, 510 ≤ u → u ≤ 512 → btg u = true := fun u h1 h2 => by
    show (Nat.ble 510 u && Nat.ble u 512) = true
    rw [Bool.and_eq_true]
    exact ⟨Nat.ble_eq_true_of_le h1, Nat.ble_eq_true_of_le h2⟩
  refine ⟨fun u hu => ?_, fun H H' σ σ' h1 h2 hS => ?_, ?_⟩
  · have hu : (Nat.ble 510 u && Nat.ble u 512) = true := hu
    rw [Bool.and_eq_true] at hu
    have := Nat.le_of_ble_eq_true hu.1
    omega
  · have r1 : σ'.1 kP = σ.1 kP := h2 kP (by show (Nat.beq kP kP || Nat.beq kP kG) = true; rw [Nat.beq_refl]; rfl)
    have r2 : σ'.1 kG = σ.1 kG := h2 kG (by show (Nat.beq kG kP || Nat.beq kG kG) = true; rw [Nat.beq_refl, Bool.or_true])
    have l : ∀ u, 510 ≤ u → u ≤ 512 → lk H' u = lk H u := fun u a b => h1 u (tin u a b)
    have l0 := l 510 (by omega) (by omega)
    have l1 := l 511 (by omega) (by omega)
    have l2 := l 512 (by omega) (by omega)
    show bS kP kG H' σ'
    unfold bS
    rw [l0, l1, l2, r1, r2]
    exact hS
  · intro s ρ σ k p v j x hl hl' H ho hb hp hi hv hx hr hw hh hS
    replace hw : (bif leAV s p (.c 0) || !(isS (lk hl 510)) then some hl else none) = some hl' := hw
    replace hS : bS kP kG H σ := hS
    cases hc : leAV s p (.c 0) || !(isS (lk hl 510)) with
    | false => rw [hc] at hw; cases hw
    | true =>
      rw [hc] at hw
      cases Option.some.inj hw
      refine ⟨H, hh, ?_, fun _ _ => rfl⟩
      show bS kP kG H (zI σ k j x)
      rw [Bool.or_eq_true] at hc
      rcases hc with hc | hc
      · have hj := leAV_ok ho hc hp (y := 0) rfl
        have e : ∀ (q i : Nat), 1 ≤ i → (zI σ k j x).1 q i = σ.1 q i := fun q i h => zI_ne (by rintro ⟨_, e⟩; omega)
        refine ⟨fun t x' a b i h1 h2 => by rw [e _ _ h1, e _ _ h1]; exact hS.1 t x' a b i h1 h2, fun t w a b => ?_⟩
        obtain ⟨i, c1, c2, c3, c4⟩ := hS.2 t w a b
        exact ⟨i, c1, c2, by rw [e _ _ c2]; exact c3, by rw [e _ _ c2]; exact c4⟩
      · rcases hh.lkp (t := 510) with ⟨_, q2⟩ | ⟨a, z, q1, _, _⟩
        · exact ⟨fun t x' a => (by rw [q2] at a; cases a), fun t w a => (by rw [q2] at a; cases a)⟩
        · rw [q1] at hc; cases hc
/-- chains: 521 is on the chain of 520; 522 is on the chain of 523; 524 isn't on the chain of 525 -/
noncomputable def oS (kP : Nat) (H : List (Nat × Int)) (σ : zS) : Prop :=
  (∀ q x, lk H 520 = some q → lk H 521 = some x → Un (Pp σ kP) x q) ∧ (∀ t x, lk H 522 = some t → lk H 523 = some x → Un (Pp σ kP) t x) ∧ ∀ t x, lk H 524 = some t → lk H 525 = some x → ¬ Un (Pp σ kP) t x
noncomputable def otg (t : Nat) : Bool := Nat.ble 520 t && Nat.ble t 525
noncomputable def co (kP : Nat) : Cp := (otg, (oS kP, (fun q => Nat.beq q kP, (fun _ hl _ _ _ => bif isS (lk hl 521) || (isS (lk hl 523) || isS (lk hl 525)) then none else some hl, nlw))))
theorem co_ok {T : Jx} {G : Gl} {kP : Nat} : CpOk T G (co kP) := by
  apply CpOk.no (fun _ => rfl)
  have tin : ∀ u, 520 ≤ u → u ≤ 525 → otg u = true := fun u h1 h2 => by
    show (Nat.ble 520 u && Nat.ble u 525) = true
    rw [Bool.and_eq_true]
    exact ⟨Nat.ble_eq_true_of_le h1, Nat.ble_eq_true_of_le h2⟩
  refine ⟨fun u hu => ?_, fun H H' σ σ' h1 h2 hS => ?_, ?_⟩
  · have hu : (Nat.ble 520 u && Nat.ble u 525) = true := hu
    rw [Bool.and_eq_true] at hu
    have := Nat.le_of_ble_eq_true hu.1
    omega
  · have r1 : Pp σ' kP = Pp σ kP := by
      funext y
      show (σ'.1 kP y).toInt = _
      rw [h2 kP (Nat.beq_refl kP)]
    have l : ∀ u, 520 ≤ u → u ≤ 525 → lk H' u = lk H u := fun u a b => h1 u (tin u a b)
    show oS kP H' σ'
    unfold oS
    rw [r1, l 520 (by omega) (by omega), l 521 (by omega) (by omega), l 522 (by omega) (by omega), l 523 (by omega) (by omega), l 524 (by omega) (by omega), l 525 (by omega) (by omega)]
    exact hS
  · intro s ρ σ k p v j x hl hl' H ho hb hp hi hv hx hr hw hh hS
    replace hw : (bif isS (lk hl 521) || (isS (lk hl 523) || isS (lk hl 525)) then none else some hl) = some hl' := hw
    cases hc : isS (lk hl 521) || (isS (lk hl 523) || isS (lk hl 525)) with
    | true => rw [hc] at hw; cases hw
    | false =>
      rw [hc] at hw
      cases Option.some.inj hw
      have no : ∀ u, isS (lk hl u) = false → lk H u = none := fun u h => by
        rcases hh.lkp (t := u) with ⟨_, q2⟩ | ⟨a, z, q1, _, _⟩
        · exact q2
        · rw [q1] at h; cases h
      simp only [Bool.or_eq_false_iff] at hc
      exact ⟨H, hh, ⟨fun q x' _ b => (by rw [no 521 hc.1] at b; cases b), fun t x' _ b => (by rw [no 523 hc.2.1] at b; cases b), fun t x' _ b => (by rw [no 525 hc.2.2] at b; cases b)⟩, fun _ _ => rfl⟩
/-- tags of one part change, all else stays -/
theorem Jf_part {T : Jx} {G : Gl} {cs : List Cp} (hwf : T.wf = true) (hc : ∀ c ∈ cs, CpOk T G c) {H H' : List (Nat × Int)} {σ : zS} {c0 : Cp} (hu : ∀ c ∈ cs, c = c0 ∨ ∀ t, c0.tg t = true → c.tg t = false) (h100 : ∀ t, c0.tg t = true → 100 ≤ t) (hl : ∀ u, c0.tg u = false → lk H' u = lk H u) (hJ : Jf T G (cS cs) H σ) (hn : c0.S H' σ) : Jf T G (cS cs) H' σ := by
  refine ⟨hJ.1, fun r R hr j hj hq => hJ.2.1 r R hr j hj (fun e => hq ?_), fun c q => ?_⟩
  · rw [hl r ?_]
    · exact e
    · cases ht : c0.tg r with
      | false => rfl
      | true =>
        have h1 := h100 r ht
        have h2 := (wf_row hwf hr).1
        omega
  · rcases hu c q with rfl | hd
    · exact hn
    · refine (hc c q).dep H H' σ σ (fun t ht => hl t ?_) (fun _ _ => rfl) (hJ.2.2 c q)
      cases h0 : c0.tg t with
      | false => rfl
      | true => rw [hd t h0] at ht; cases ht
end
end
section
noncomputable section
/-! ===== hints for things: 63, 64, 70 .. 76, 80 .. 92 ===== -/
/-- what every such hint needs of the parts: c0 is one of them, its tags are its own -/
noncomputable abbrev PH (T : Jx) (G : Gl) (cs : List Cp) (c0 : Cp) : Prop := T.wf = true ∧ (∀ c ∈ cs, CpOk T G c) ∧ c0 ∈ cs ∧ ∀ c ∈ cs, c = c0 ∨ ∀ t, c0.tg t = true → c.tg t = false
section H30
variable {T : Jx} {G : Gl} {cs : List Cp} {s : Sy} {ρ : List Int} {σ : zS}
theorem ph_set {c0 : Cp} (hP : PH T G cs c0) {hl' : List (Nat × AV)} {H H' : List (Nat × Int)} (ho : Ok (Jf T G (cS cs)) s ρ σ) (hJ : Jf T G (cS cs) H σ) (hh : Hl ρ hl' H') (hl : ∀ u, c0.tg u = false → lk H' u = lk H u) (hn : c0.S H' σ) : Ok (Jf T G (cS cs)) (s.seth hl') ρ σ :=
  ⟨ho.len, ho.env, ho.me, ho.cg, ho.df, ho.fa, H', hh, Jf_part hP.1 hP.2.1 hP.2.2.2 (fun t ht => (hP.2.1 c0 hP.2.2.1).1 t ht) hl hJ hn⟩
noncomputable def h63 (k j : Nat) (x : Int) (s : Sy) : Option Sy := match mget s.me k (.c (j : Int)) with
  | some w => bif w.isI then s.refd w [(x, x)] else some s
  | none => some (s.add k (.c (j : Int)) (.c x))
theorem h63_ok {k j : Nat} {x : Int} (hm : ck k j x ∈ cs) (ho : Ok (Jf T G (cS cs)) s ρ σ) : ∃ s', h63 k j x s = some s' ∧ Ok (Jf T G (cS cs)) s' ρ σ := by
  obtain ⟨H, i1, i2⟩ := ho.inv
  have hS : (σ.1 k j).toInt = x := i2.2.2 _ hm
  unfold h63
  split
  · rename_i w hw
    cases hi : w.isI with
    | false => exact ⟨s, rfl, ho⟩
    | true =>
      have e := me_at ho hw rfl hi
      exact refd_ok ho e (dom_i ho hi e) ⟨_, List.mem_cons_self .., by rw [hS]; exact Int.le_refl _, by rw [hS]; exact Int.le_refl _⟩
  · exact ⟨_, rfl, ho.addm ⟨j, rfl, Or.inl ⟨rfl, congrArg some hS.symm⟩⟩⟩
noncomputable def h64 (kF jB jT : Nat) (s : Sy) : Option Sy := match mget s.me kF (.c (jT : Int)) with
  | some w => match mget s.me kF (.c (jB : Int)) with
    | some b => bif (w.isI && b.isI) && leAV s (.c 2) w then s.refd b [(1, 1)] else some s
    | none => some s
  | none => some s
theorem h64_ok {kF jB jT : Nat} (hm : cn kF jB jT ∈ cs) (ho : Ok (Jf T G (cS cs)) s ρ σ) : ∃ s', h64 kF jB jT s = some s' ∧ Ok (Jf T G (cS cs)) s' ρ σ := by
  obtain ⟨H, i1, i2⟩ := ho.inv
  have hS : (σ.1 kF jB).toInt = 1 ∨ (σ.1 kF jT).toInt ≤ 1 := i2.2.2 _ hm
  unfold h64
  split
  · rename_i w hw
    split
    · rename_i b hb
      cases hc : (w.isI && b.isI) && leAV s (.c 2) w with
      | false => exact ⟨s, rfl, ho⟩
      | true =>
        simp only [Bool.and_eq_true] at hc
        have e1 := leAV_ok ho hc.2 (x := 2) rfl (me_at ho hw rfl hc.1.1)
        have e2 := me_at ho hb rfl hc.1.2
        exact refd_ok ho e2 (dom_i ho hc.1.2 e2) ⟨_, List.mem_cons_self .., by dsimp only; omega, by dsimp only; omega⟩
    · exact ⟨s, rfl, ho⟩
  · exact ⟨s, rfl, ho⟩
/-- at a place of the rows: what they hold -/
noncomputable def atI (s : Sy) (k : Nat) (a : AV) : Option AV := oth s k a
noncomputable def h70 (a : AV) (n : Nat) (s : Sy) : Sy := bif (a.isI && Nat.ble n 1) && (!(isS (lk s.hl 510)) && !(isS (lk s.hl 512))) then s.seth (hset 510 a (hset 511 (.c (n : Int)) s.hl)) else s
theorem no_tag {H : List (Nat × Int)} {hl : List (Nat × AV)} (hh : Hl ρ hl H) {u : Nat} (h : (!(isS (lk hl u))) = true) : lk H u = none := by
  rcases hh.lkp (t := u) with ⟨_, q2⟩ | ⟨a, z, q1, _, _⟩
  · exact q2
  · rw [q1] at h; cases h
theorem btg_no {u : Nat} (h : btg u = false) : u ≠ 510 ∧ u ≠ 511 ∧ u ≠ 512 := ⟨fun e => (by rw [e] at h; cases h), fun e => (by rw [e] at h; cases h), fun e => (by rw [e] at h; cases h)⟩
theorem h70_ok {kP kG : Nat} (hP : PH T G cs (cb kP kG)) {a : AV} {n : Nat} {z : Int} (hz : ev ρ a = some z) (ho : Ok (Jf T G (cS cs)) s ρ σ) : Ok (Jf T G (cS cs)) (h70 a n s) ρ σ := by
  unfold h70
  cases hc : (a.isI && Nat.ble n 1) && (!(isS (lk s.hl 510)) && !(isS (lk s.hl 512))) with
  | false => exact ho
  | true =>
    simp only [Bool.and_eq_true] at hc
    obtain ⟨H, i1, i2⟩ := ho.inv
    have hn := Nat.le_of_ble_eq_true hc.1.2
    have n2 := no_tag i1 hc.2.2
    refine ph_set hP ho i2 ((i1.set (a := .c (n : Int)) (x := (n : Int)) rfl).set hz) (fun u hu => ?_) ⟨fun t x _ b i h1 h2 => ?_, fun t w _ b => ?_⟩
    · obtain ⟨u0, u1, u2⟩ := btg_no hu
      rw [lk_hset, if_neg u0, lk_hset, if_neg u1]
    · rw [lk_hset, if_neg (by decide), lk_hset, if_pos rfl] at b
      have := Option.some.inj b
      omega
    · rw [lk_hset, if_neg (by decide), lk_hset, if_neg (by decide), n2] at b
      cases b
noncomputable def h76 (s : Sy) : Sy := bif isS (lk s.hl 510) && !(isS (lk s.hl 511)) then s.seth (hset 511 (.c 1) s.hl) else s
theorem h76_ok {kP kG : Nat} (hP : PH T G cs (cb kP kG)) (ho : Ok (Jf T G (cS cs)) s ρ σ) : Ok (Jf T G (cS cs)) (h76 s) ρ σ := by
  unfold h76
  cases hc : isS (lk s.hl 510) && !(isS (lk s.hl 511)) with
  | false => exact ho
  | true =>
    obtain ⟨H, i1, i2⟩ := ho.inv
    have hS : bS kP kG H σ := i2.2.2 _ hP.2.2.1
    refine ph_set hP ho i2 (i1.set (a := .c 1) (x := 1) rfl) (fun u hu => ?_) ⟨fun t x _ b i h1 h2 => ?_, fun t w a b => ?_⟩
    · rw [lk_hset, if_neg (btg_no hu).2.1]
    · rw [lk_hset, if_pos rfl] at b
      have := Option.some.inj b
      omega
    · rw [lk_hset, if_neg (by decide)] at a b
      exact hS.2 t w a b
noncomputable def h75 (s : Sy) : Sy := s.seth (hdel 510 (hdel 511 (hdel 512 s.hl)))
theorem h75_ok {kP kG : Nat} (hP : PH T G cs (cb kP kG)) (ho : Ok (Jf T G (cS cs)) s ρ σ) : Ok (Jf T G (cS cs)) (h75 s) ρ σ := by
  obtain ⟨H, i1, i2⟩ := ho.inv
  refine ph_set hP ho i2 ((i1.del).del).del (fun u hu => ?_) ⟨fun t x a => ?_, fun t w a => ?_⟩
  · obtain ⟨u0, u1, u2⟩ := btg_no hu
    rw [lk_hdel, if_neg u0, lk_hdel, if_neg u1, lk_hdel, if_neg u2]
  · rw [lk_hdel, if_pos rfl] at a; cases a
  · rw [lk_hdel, if_pos rfl] at a; cases a
noncomputable def h74 (s : Sy) : Option Sy := match lk s.hl 510 with
  | some _ => match lk s.hl 511 with
    | some x => match lk s.hl 512 with
      | some w => bif leAV s (shA w 1) x then none else some s
      | none => some s
    | none => some s
  | none => some s
theorem h74_ok {kP kG : Nat} (hm : cb kP kG ∈ cs) (ho : Ok (Jf T G (cS cs)) s ρ σ) : ∃ s', h74 s = some s' ∧ Ok (Jf T G (cS cs)) s' ρ σ := by
  obtain ⟨H, i1, i2⟩ := ho.inv
  have hS : bS kP kG H σ := i2.2.2 _ hm
  unfold h74
  split
  · rename_i a0 q0
    split
    · rename_i x qx
      split
      · rename_i w qw
        cases hc : leAV s (shA w 1) x with
        | false => exact ⟨s, rfl, ho⟩
        | true =>
          obtain ⟨z0, r0, _⟩ := tag_get ho i1 q0
          obtain ⟨zx, rx, ex⟩ := tag_get ho i1 qx
          obtain ⟨zw, rw', ew⟩ := tag_get ho i1 qw
          have e := leAV_ok ho hc (shA_ev ew) ex
          obtain ⟨i, c1, c2, c3, c4⟩ := hS.2 z0 zw r0 rw'
          exact absurd ⟨c3, c4⟩ (hS.1 z0 zx r0 rx i c2 (by omega))
      · exact ⟨s, rfl, ho⟩
    · exact ⟨s, rfl, ho⟩
  · exact ⟨s, rfl, ho⟩
/-- 71: one further -/
noncomputable def h71 (kP kG : Nat) (a : AV) (s : Sy) : Sy := match lk s.hl 510 with
  | some t => match lk s.hl 511 with
    | some x => bif eqA s x a && (leAV s a (.c 0) || ((match oth s kG a with
        | some g => leAV s (.c 1) g
        | none => false) || (match oth s kP a with
        | some v => leAV s (shA v 1) t || leAV s (shA t 1) v
        | none => false))) then s.seth (hup 511 (shA a 1) s.hl) else s
    | none => s
  | none => s
theorem h71_ok {kP kG : Nat} (hP : PH T G cs (cb kP kG)) {a : AV} {j : Nat} (hz : ev ρ a = some (j : Int)) (ho : Ok (Jf T G (cS cs)) s ρ σ) : Ok (Jf T G (cS cs)) (h71 kP kG a s) ρ σ := by
  unfold h71
  split
  · rename_i t qt
    split
    · rename_i x qx
      cases hc : eqA s x a && (leAV s a (.c 0) || ((match oth s kG a with
        | some g => leAV s (.c 1) g
        | none => false) || (match oth s kP a with
        | some v => leAV s (shA v 1) t || leAV s (shA t 1) v
        | none => false))) with
      | false => exact ho
      | true =>
        obtain ⟨H, i1, i2⟩ := ho.inv
        have hS : bS kP kG H σ := i2.2.2 _ hP.2.2.1
        obtain ⟨zt, rt, et⟩ := tag_get ho i1 qt
        obtain ⟨zx, rx, ex⟩ := tag_get ho i1 qx
        simp only [Bool.and_eq_true, Bool.or_eq_true] at hc
        have exa := eqA_ok ho hc.1 ex hz
        have new : 1 ≤ j → ¬ ((σ.1 kP j).toInt = zt ∧ (σ.1 kG j).toInt ≤ 0) := by
          intro hj
          rcases hc.2 with h | h | h
          · have := leAV_ok ho h hz (y := 0) rfl
            omega
          · split at h
            · rename_i g hg
              have := leAV_ok ho h (x := 1) rfl (oth_ok ho hg hz).2
              omega
            · cases h
          · split at h
            · rename_i v hv
              have ev' := (oth_ok ho hv hz).2
              rw [Bool.or_eq_true] at h
              rcases h with h | h
              · have := leAV_ok ho h (shA_ev ev') et
                omega
              · have := leAV_ok ho h (shA_ev et) ev'
                omega
            · cases h
        refine ph_set hP ho i2 (i1.up (shA_ev hz)) (fun u hu => lk_hup_ne (btg_no hu).2.1) ⟨fun t' x' b c i h1 h2 => ?_, fun t' w b c => ?_⟩
        · rw [lk_hup_ne (by decide), rt] at b
          rw [lk_hup_at rx] at c
          have eb := Option.some.inj b
          have ec := Option.some.inj c
          by_cases e : i = j
          · rw [e, ← eb]; exact new (by omega)
          · exact hS.1 t' zx (by rw [rt, eb]) rx i h1 (by omega)
        · rw [lk_hup_ne (by decide)] at b c
          exact hS.2 t' w b c
    · exact ho
  · exact ho
/-- 72: a witness; 73: a find below 511 -/
noncomputable def h72c (kP kG : Nat) (a t : AV) (s : Sy) : Bool := (match oth s kP a with
  | some v => eqA s v t
  | none => false) && ((match oth s kG a with
  | some g => leAV s g (.c 0)
  | none => false) && leAV s (.c 1) a)
theorem h72c_ok {kP kG : Nat} {a t : AV} {j : Nat} {zt : Int} (ho : Ok (Jf T G (cS cs)) s ρ σ) (hz : ev ρ a = some (j : Int)) (ht : ev ρ t = some zt) (h : h72c kP kG a t s = true) : 1 ≤ j ∧ (σ.1 kP j).toInt = zt ∧ (σ.1 kG j).toInt ≤ 0 := by
  unfold h72c at h
  simp only [Bool.and_eq_true] at h
  obtain ⟨h1, h2, h3⟩ := h
  have g := leAV_ok ho h3 (x := 1) rfl hz
  refine ⟨by omega, ?_, ?_⟩
  · split at h1
    · rename_i v hv
      exact eqA_ok ho h1 (oth_ok ho hv hz).2 ht
    · cases h1
  · split at h2
    · rename_i g' hg
      exact leAV_ok ho h2 (oth_ok ho hg hz).2 (y := 0) rfl
    · cases h2
noncomputable def h72 (kP kG : Nat) (a : AV) (s : Sy) : Sy := match lk s.hl 510 with
  | some t => bif h72c kP kG a t s then s.seth (hdel 511 (hset 512 a s.hl)) else s
  | none => s
theorem h72_ok {kP kG : Nat} (hP : PH T G cs (cb kP kG)) {a : AV} {j : Nat} (hz : ev ρ a = some (j : Int)) (ho : Ok (Jf T G (cS cs)) s ρ σ) : Ok (Jf T G (cS cs)) (h72 kP kG a s) ρ σ := by
  unfold h72
  split
  · rename_i t qt
    cases hc : h72c kP kG a t s with
    | false => exact ho
    | true =>
      obtain ⟨H, i1, i2⟩ := ho.inv
      obtain ⟨zt, rt, et⟩ := tag_get ho i1 qt
      obtain ⟨g1, g2, g3⟩ := h72c_ok ho hz et hc
      refine ph_set hP ho i2 (i1.set hz).del (fun u hu => ?_) ⟨fun t' x' _ c => ?_, fun t' w b c => ?_⟩
      · obtain ⟨u0, u1, u2⟩ := btg_no hu
        rw [lk_hdel, if_neg u1, lk_hset, if_neg u2]
      · rw [lk_hdel, if_pos rfl] at c; cases c
      · rw [lk_hdel, if_neg (by decide), lk_hset, if_neg (by decide), rt] at b
        rw [lk_hdel, if_neg (by decide), lk_hset, if_pos rfl] at c
        exact ⟨j, (Option.some.inj c).symm, g1, by rw [g2]; exact Option.some.inj b, g3⟩
  · exact ho
noncomputable def h73 (kP kG : Nat) (a : AV) (s : Sy) : Option Sy := match lk s.hl 510 with
  | some t => match lk s.hl 511 with
    | some x => bif h72c kP kG a t s && leAV s (shA a 1) x then none else some s
    | none => some s
  | none => some s
theorem h73_ok {kP kG : Nat} (hm : cb kP kG ∈ cs) {a : AV} {j : Nat} (hz : ev ρ a = some (j : Int)) (ho : Ok (Jf T G (cS cs)) s ρ σ) : ∃ s', h73 kP kG a s = some s' ∧ Ok (Jf T G (cS cs)) s' ρ σ := by
  obtain ⟨H, i1, i2⟩ := ho.inv
  have hS : bS kP kG H σ := i2.2.2 _ hm
  unfold h73
  split
  · rename_i t qt
    split
    · rename_i x qx
      cases hc : h72c kP kG a t s && leAV s (shA a 1) x with
      | false => exact ⟨s, rfl, ho⟩
      | true =>
        rw [Bool.and_eq_true] at hc
        obtain ⟨zt, rt, et⟩ := tag_get ho i1 qt
        obtain ⟨zx, rx, ex⟩ := tag_get ho i1 qx
        obtain ⟨g1, g2, g3⟩ := h72c_ok ho hz et hc.1
        have e := leAV_ok ho hc.2 (shA_ev hz) ex
        exact absurd ⟨g2, g3⟩ (hS.1 zt zx rt rx j g1 (by omega))
    · exact ⟨s, rfl, ho⟩
  · exact ⟨s, rfl, ho⟩
end H30
/-! ===== chains ===== -/
theorem cnt_self {r : Nat → Nat} {p : Nat} : ∀ n : Nat, p < n → cnt r (r p) n + 1 ≤ n
  | 0, h => absurd h (Nat.not_lt_zero _)
  | n + 1, h => by
    unfold cnt
    by_cases e : p = n
    · subst e
      have := cnt_le (r := r) (b := r p) p
      rw [if_neg (Nat.lt_irrefl _)]
      omega
    · have := cnt_self (r := r) (p := p) n (by omega)
      split <;> omega
theorem rk40 {r : Nat → Nat} {x : Int} (h0 : 0 ≤ x) (h1 : x ≤ 39) : rk r x ≤ 40 := by
  unfold rk
  rw [if_pos h0]
  have := cnt_self (r := r) (p := x.toNat) 40 (by omega)
  omega
theorem up_end {P : Nat → Int} : ∀ (n : Nat) (y : Int), up P (n + 1) y = (if 0 ≤ up P n y then P (up P n y).toNat else up P n y)
  | 0, y => rfl
  | n + 1, y => by
    show up P (n + 1) (if 0 ≤ y then P y.toNat else y) = _
    rw [up_end n]
    rfl
theorem un_fwd {P : Nat → Int} {x q : Int} (h : Un P x q) (h0 : 0 ≤ x) : Un P (P x.toNat) q := by
  obtain ⟨n, hn⟩ := h
  refine ⟨n + 1, ?_⟩
  rw [up_end, hn, if_pos h0]
section H31
variable {T : Jx} {G : Gl} {cs : List Cp} {s : Sy} {ρ : List Int} {σ : zS} {kP kF jT jB : Nat}
noncomputable def h80 (kF jB : Nat) (a : AV) (s : Sy) : Sy := bif begun kF jB s s.hl && ((a.isI && (leAV s (.c 0) a && leAV s a (.c 39))) && (!(isS (lk s.hl 300)) && !(isS (lk s.hl 301)))) then (s.new [(0, 40)]).seth ((300, a) :: (301, .i s.nx 0) :: s.hl) else s
theorem h80_ok (hwf : T.wf = true) (hc : ∀ c ∈ cs, CpOk T G c) (hm : ctr kP kF jT jB ∈ cs) (hu : ∀ c ∈ cs, ∀ t, t = 300 ∨ t = 301 → c.tg t = true → c = ctr kP kF jT jB) {a : AV} {z : Int} (hz : ev ρ a = some z) (ho : Ok (Jf T G (cS cs)) s ρ σ) : ∃ ρ', Pre ρ ρ' ∧ Ok (Jf T G (cS cs)) (h80 kF jB a s) ρ' σ := by
  unfold h80
  cases hb : begun kF jB s s.hl && ((a.isI && (leAV s (.c 0) a && leAV s a (.c 39))) && (!(isS (lk s.hl 300)) && !(isS (lk s.hl 301)))) with
  | false => exact ⟨ρ, Pre.rf, ho⟩
  | true =>
    simp only [Bool.and_eq_true] at hb
    obtain ⟨H, i1, i2⟩ := ho.inv
    obtain ⟨b1, b2⟩ := begun_ok ho i1 hb.1
    have n300 := lk_no i1 hb.2.2.1
    have hS : tS kP kF jT jB H σ := i2.2.2 _ hm
    obtain ⟨s1, s2, s3, s4, s5⟩ := hS
    obtain ⟨r, a1, _⟩ := s1 (s3 b1 b2)
    have g1 := leAV_ok ho hb.2.1.2.1 (x := 0) rfl hz
    have g2 := leAV_ok ho hb.2.1.2.2 hz (y := 39) rfl
    have hr := rk_in (r := r) (x := z)
    have hq := ho.new (x := rk r z) (d := [(0, 40)]) ⟨_, List.mem_cons_self .., hr.1, rk40 g1 g2⟩
    have hp : Pre ρ (ρ ++ [rk r z]) := ⟨_, rfl⟩
    refine ⟨ρ ++ [rk r z], hp, hq.len, hq.env, hq.me, hq.cg, hq.df, hq.fa, (300, z) :: (301, rk r z) :: H, ⟨⟨rfl, ev.mono hp hz⟩, ⟨rfl, ho.new_i⟩, i1.mono hp⟩, ?_⟩
    have k1 : Jf T G (cS cs) ((301, rk r z) :: H) σ := Jf_tag hwf hc (t := 301) (by decide) (fun u hu2 => by rw [lk_cons, if_neg hu2]) i2 (fun c q e => by
      rw [hu c q 301 (Or.inr rfl) e]
      refine ⟨fun _ => ⟨r, a1, fun x n hx => ?_⟩, s2, fun h => s3 (by rw [lk_cons, if_neg (by decide)] at h; exact h), s4, fun q t x h1 h2 h3 => ?_⟩
      · rw [lk_cons, if_neg (by decide), n300] at hx; cases hx
      · rw [lk_cons, if_neg (by decide)] at h1 h2 h3
        exact s5 q t x h1 h2 h3)
    refine Jf_tag hwf hc (t := 300) (by decide) (fun u hu2 => by rw [lk_cons, if_neg hu2]) k1 (fun c q e => ?_)
    rw [hu c q 300 (Or.inl rfl) e]
    refine ⟨fun _ => ⟨r, a1, fun x n hx hn => ?_⟩, s2, fun h => s3 (by rw [lk_cons, if_neg (by decide), lk_cons, if_neg (by decide)] at h; exact h), s4, fun q t x h1 h2 h3 => ?_⟩
    · rw [lk_cons, if_pos rfl] at hx
      rw [lk_cons, if_neg (by decide), lk_cons, if_pos rfl] at hn
      rw [← Option.some.inj hx, ← Option.some.inj hn]
    · rw [lk_cons, if_neg (by decide), lk_cons, if_neg (by decide)] at h1 h2 h3
      exact s5 q t x h1 h2 h3
noncomputable def h81 (kF jB : Nat) (s : Sy) : Option Sy := match lk s.hl 300 with
  | some x => match lk s.hl 301 with
    | some n => bif begun kF jB s s.hl && (isS (edom s x) && leAV s n (.c 0)) then s.refd x [(dlo (dom s x), -1)] else some s
    | none => some s
  | none => some s
theorem h81_ok (hm : ctr kP kF jT jB ∈ cs) (ho : Ok (Jf T G (cS cs)) s ρ σ) : ∃ s', h81 kF jB s = some s' ∧ Ok (Jf T G (cS cs)) s' ρ σ := by
  unfold h81
  split
  · rename_i x qx
    split
    · rename_i n qn
      cases hb : begun kF jB s s.hl && (isS (edom s x) && leAV s n (.c 0)) with
      | false => exact ⟨s, rfl, ho⟩
      | true =>
        simp only [Bool.and_eq_true] at hb
        obtain ⟨H, i1, i2⟩ := ho.inv
        obtain ⟨b1, b2⟩ := begun_ok ho i1 hb.1
        obtain ⟨s1, s2, s3, s4, s5⟩ := (i2.2.2 _ hm : tS kP kF jT jB H σ)
        obtain ⟨r, a1, a2⟩ := s1 (s3 b1 b2)
        obtain ⟨zx, x1, x2⟩ := tag_get ho i1 qx
        obtain ⟨zn, n1, n2⟩ := tag_get ho i1 qn
        have e := a2 zx zn x1 n1
        have g := leAV_ok ho hb.2.2 n2 (y := 0) rfl
        have hneg : zx < 0 := by
          rw [e] at g
          unfold rk at g
          split at g <;> omega
        have hd := edom_ok' ho hb.2.1 x2
        exact refd_ok ho x2 hd ⟨_, List.mem_cons_self .., dlo_le hd, by dsimp only; omega⟩
    · exact ⟨s, rfl, ho⟩
  · exact ⟨s, rfl, ho⟩
noncomputable def h82 (kP kF jB : Nat) (s : Sy) : Option Sy := bif begun kF jB s s.hl then (match mget s.me kP (.c ((0 : Nat) : Int)) with
  | some w => bif w.isI then s.refd w [(-4, -4)] else some s
  | none => some (s.add kP (.c ((0 : Nat) : Int)) (.c (-4)))) else some s
theorem h82_ok (hm : ctr kP kF jT jB ∈ cs) (h4 : Bd T G σ → Pp σ kP 0 < 0 → Pp σ kP 0 = -4) (ho : Ok (Jf T G (cS cs)) s ρ σ) : ∃ s', h82 kP kF jB s = some s' ∧ Ok (Jf T G (cS cs)) s' ρ σ := by
  unfold h82
  cases hb : begun kF jB s s.hl with
  | false => exact ⟨s, rfl, ho⟩
  | true =>
    obtain ⟨H, i1, i2⟩ := ho.inv
    obtain ⟨b1, b2⟩ := begun_ok ho i1 hb
    obtain ⟨s1, s2, s3, s4, s5⟩ := (i2.2.2 _ hm : tS kP kF jT jB H σ)
    have e : (σ.1 kP 0).toInt = -4 := h4 i2.1 (s3 b1 b2)
    simp only [cond_true]
    split
    · rename_i w hw
      cases hi : w.isI with
      | false => exact ⟨s, rfl, ho⟩
      | true =>
        have g := me_at ho hw rfl hi
        exact refd_ok ho g (dom_i ho hi g) ⟨_, List.mem_cons_self .., by rw [e]; exact Int.le_refl _, by rw [e]; exact Int.le_refl _⟩
    · exact ⟨_, rfl, ho.addm ⟨0, rfl, Or.inl ⟨rfl, congrArg some e.symm⟩⟩⟩
theorem otg_no {u : Nat} (h : otg u = false) : ¬ (520 ≤ u ∧ u ≤ 525) := fun q => by
  have : otg u = true := by
    show (Nat.ble 520 u && Nat.ble u 525) = true
    rw [Bool.and_eq_true]
    exact ⟨Nat.ble_eq_true_of_le q.1, Nat.ble_eq_true_of_le q.2⟩
  rw [this] at h
  cases h
noncomputable def h83 (a : AV) (s : Sy) : Sy := bif a.isI && (!(isS (lk s.hl 520)) && !(isS (lk s.hl 521))) then s.seth (hset 520 a (hset 521 a s.hl)) else s
theorem h83_ok (hP : PH T G cs (co kP)) {a : AV} {z : Int} (hz : ev ρ a = some z) (ho : Ok (Jf T G (cS cs)) s ρ σ) : Ok (Jf T G (cS cs)) (h83 a s) ρ σ := by
  unfold h83
  cases hb : a.isI && (!(isS (lk s.hl 520)) && !(isS (lk s.hl 521))) with
  | false => exact ho
  | true =>
    obtain ⟨H, i1, i2⟩ := ho.inv
    obtain ⟨o1, o2, o3⟩ := (i2.2.2 _ hP.2.2.1 : oS kP H σ)
    refine ph_set hP ho i2 ((i1.set hz).set hz) (fun u hu => ?_) ⟨fun q x b c => ?_, fun t x b c => ?_, fun t x b c => ?_⟩
    · have := otg_no hu
      rw [lk_hset, if_neg (by omega), lk_hset, if_neg (by omega)]
    · rw [lk_hset, if_pos rfl] at b
      rw [lk_hset, if_neg (by decide), lk_hset, if_pos rfl] at c
      rw [← Option.some.inj b, ← Option.some.inj c]
      exact ⟨0, rfl⟩
    · rw [lk_hset, if_neg (by decide), lk_hset, if_neg (by decide)] at b c
      exact o2 t x b c
    · rw [lk_hset, if_neg (by decide), lk_hset, if_neg (by decide)] at b c
      exact o3 t x b c
/-- from x one step up is a -/
noncomputable def stp9 (kP : Nat) (x a : AV) (s : Sy) : Bool := match mget s.me kP (pl s x) with
  | some w => (w.isI && eqA s w a) && (eqA s x (pl s x) && leAV s (.c 0) x)
  | none => false
theorem stp9_ok {J : Jt} {x a : AV} {zx z : Int} (ho : Ok J s ρ σ) (hx : ev ρ x = some zx) (ha : ev ρ a = some z) (h : stp9 kP x a s = true) : 0 ≤ zx ∧ Pp σ kP zx.toNat = z := by
  unfold stp9 at h
  split at h
  · rename_i w hw
    simp only [Bool.and_eq_true] at h
    obtain ⟨⟨h1, h2⟩, h3, h4⟩ := h
    obtain ⟨j, f1, _⟩ := ho.me _ (mget_mem hw)
    have e := eqA_ok ho h3 hx f1
    have g := leAV_ok ho h4 (x := 0) rfl hx
    have ew := eqA_ok ho h2 (me_at ho hw f1 h1) ha
    have ej : zx.toNat = j := by omega
    rw [ej]
    exact ⟨g, ew⟩
  · cases h
noncomputable def h84 (kP : Nat) (a : AV) (s : Sy) : Sy := match lk s.hl 521 with
  | some x => bif stp9 kP x a s then s.seth (hup 521 a s.hl) else s
  | none => s
theorem h84_ok (hP : PH T G cs (co kP)) {a : AV} {z : Int} (hz : ev ρ a = some z) (ho : Ok (Jf T G (cS cs)) s ρ σ) : Ok (Jf T G (cS cs)) (h84 kP a s) ρ σ := by
  unfold h84
  split
  · rename_i x qx
    cases hb : stp9 kP x a s with
    | false => exact ho
    | true =>
      obtain ⟨H, i1, i2⟩ := ho.inv
      obtain ⟨o1, o2, o3⟩ := (i2.2.2 _ hP.2.2.1 : oS kP H σ)
      obtain ⟨zx, x1, x2⟩ := tag_get ho i1 qx
      obtain ⟨g0, g1⟩ := stp9_ok ho x2 hz hb
      refine ph_set hP ho i2 (i1.up hz) (fun u hu => lk_hup_ne (fun e => otg_no hu (by omega))) ⟨fun q y b c => ?_, fun t y b c => ?_, fun t y b c => ?_⟩
      · rw [lk_hup_ne (by decide)] at b
        rw [lk_hup_at x1] at c
        rw [← Option.some.inj c, ← g1]
        exact un_fwd (o1 q zx b x1) g0
      · rw [lk_hup_ne (by decide)] at b c
        exact o2 t y b c
      · rw [lk_hup_ne (by decide)] at b c
        exact o3 t y b c
  · exact ho
noncomputable def h87 (kP : Nat) (a : AV) (s : Sy) : Sy := match lk s.hl 522 with
  | some t => match lk s.hl 523 with
    | some x => bif stp9 kP x a s && (leAV s (shA x 1) t || leAV s (shA t 1) x) then s.seth (hup 523 a s.hl) else s
    | none => s
  | none => s
theorem h87_ok (hP : PH T G cs (co kP)) {a : AV} {z : Int} (hz : ev ρ a = some z) (ho : Ok (Jf T G (cS cs)) s ρ σ) : Ok (Jf T G (cS cs)) (h87 kP a s) ρ σ := by
  unfold h87
  split
  · rename_i t qt
    split
    · rename_i x qx
      cases hb : stp9 kP x a s && (leAV s (shA x 1) t || leAV s (shA t 1) x) with
      | false => exact ho
      | true =>
        rw [Bool.and_eq_true, Bool.or_eq_true] at hb
        obtain ⟨H, i1, i2⟩ := ho.inv
        obtain ⟨o1, o2, o3⟩ := (i2.2.2 _ hP.2.2.1 : oS kP H σ)
        obtain ⟨zx, x1, x2⟩ := tag_get ho i1 qx
        obtain ⟨zt, t1, t2⟩ := tag_get ho i1 qt
        obtain ⟨g0, g1⟩ := stp9_ok ho x2 hz hb.1
        have hne : zx ≠ zt := by
          rcases hb.2 with h | h
          · have := leAV_ok ho h (shA_ev x2) t2
            omega
          · have := leAV_ok ho h (shA_ev t2) x2
            omega
        refine ph_set hP ho i2 (i1.up hz) (fun u hu => lk_hup_ne (fun e => otg_no hu (by omega))) ⟨fun q y b c => ?_, fun t' y b c => ?_, fun t' y b c => ?_⟩
        · rw [lk_hup_ne (by decide)] at b c
          exact o1 q y b c
        · rw [lk_hup_ne (by decide), t1] at b
          rw [lk_hup_at x1] at c
          rw [← Option.some.inj c, ← Option.some.inj b, ← g1]
          exact un_step (o2 zt zx t1 x1) g0 hne
        · rw [lk_hup_ne (by decide)] at b c
          exact o3 t' y b c
    · exact ho
  · exact ho
noncomputable def h88 (kP : Nat) (a : AV) (s : Sy) : Sy := match lk s.hl 524 with
  | some _ => match lk s.hl 525 with
    | some x => bif stp9 kP x a s then s.seth (hup 525 a s.hl) else s
    | none => s
  | none => s
theorem h88_ok (hP : PH T G cs (co kP)) {a : AV} {z : Int} (hz : ev ρ a = some z) (ho : Ok (Jf T G (cS cs)) s ρ σ) : Ok (Jf T G (cS cs)) (h88 kP a s) ρ σ := by
  unfold h88
  split
  · rename_i t qt
    split
    · rename_i x qx
      cases hb : stp9 kP x a s with
      | false => exact ho
      | true =>
        obtain ⟨H, i1, i2⟩ := ho.inv
        obtain ⟨o1, o2, o3⟩ := (i2.2.2 _ hP.2.2.1 : oS kP H σ)
        obtain ⟨zx, x1, x2⟩ := tag_get ho i1 qx
        obtain ⟨g0, g1⟩ := stp9_ok ho x2 hz hb
        refine ph_set hP ho i2 (i1.up hz) (fun u hu => lk_hup_ne (fun e => otg_no hu (by omega))) ⟨fun q y b c => ?_, fun t' y b c => ?_, fun t' y b c => ?_⟩
        · rw [lk_hup_ne (by decide)] at b c
          exact o1 q y b c
        · rw [lk_hup_ne (by decide)] at b c
          exact o2 t' y b c
        · rw [lk_hup_ne (by decide)] at b
          rw [lk_hup_at x1] at c
          rw [← Option.some.inj c, ← g1]
          exact fun h => o3 t' zx b x1 (un_back g0 h)
    · exact ho
  · exact ho
noncomputable def h85 (s : Sy) : Sy := match lk s.hl 520 with
  | some q => match lk s.hl 521 with
    | some x => s.seth (hset 522 x (hset 523 q (hdel 520 (hdel 521 s.hl))))
    | none => s
  | none => s
theorem h85_ok (hP : PH T G cs (co kP)) (ho : Ok (Jf T G (cS cs)) s ρ σ) : Ok (Jf T G (cS cs)) (h85 s) ρ σ := by
  unfold h85
  split
  · rename_i q qq
    split
    · rename_i x qx
      obtain ⟨H, i1, i2⟩ := ho.inv
      obtain ⟨o1, o2, o3⟩ := (i2.2.2 _ hP.2.2.1 : oS kP H σ)
      obtain ⟨zx, x1, x2⟩ := tag_get ho i1 qx
      obtain ⟨zq, q1, q2⟩ := tag_get ho i1 qq
      refine ph_set hP ho i2 ((((i1.del).del).set q2).set x2) (fun u hu => ?_) ⟨fun q' y b c => ?_, fun t y b c => ?_, fun t y b c => ?_⟩
      · have := otg_no hu
        rw [lk_hset, if_neg (by omega), lk_hset, if_neg (by omega), lk_hdel, if_neg (by omega), lk_hdel, if_neg (by omega)]
      · rw [lk_hset, if_neg (by decide), lk_hset, if_neg (by decide), lk_hdel, if_pos rfl] at b
        cases b
      · rw [lk_hset, if_pos rfl] at b
        rw [lk_hset, if_neg (by decide), lk_hset, if_pos rfl] at c
        rw [← Option.some.inj b, ← Option.some.inj c]
        exact o1 zq zx q1 x1
      · rw [lk_hset, if_neg (by decide), lk_hset, if_neg (by decide), lk_hdel, if_neg (by decide), lk_hdel, if_neg (by decide)] at b c
        exact o3 t y b c
    · exact ho
  · exact ho
noncomputable def h86 (s : Sy) : Sy := match lk s.hl 302 with
  | some q => match lk s.hl 303 with
    | some t => match lk s.hl 304 with
      | some x => bif leAV s x (.c (-1)) && leAV s (.c 0) t then s.seth (hset 524 t (hset 525 q (hdel 520 (hdel 521 s.hl)))) else s
      | none => s
    | none => s
  | none => s
theorem h86_ok (hP : PH T G cs (co kP)) (hm : ctr kP kF jT jB ∈ cs) (ho : Ok (Jf T G (cS cs)) s ρ σ) : Ok (Jf T G (cS cs)) (h86 s) ρ σ := by
  unfold h86
  split
  · rename_i q qq
    split
    · rename_i t qt
      split
      · rename_i x qx
        cases hb : leAV s x (.c (-1)) && leAV s (.c 0) t with
        | false => exact ho
        | true =>
          rw [Bool.and_eq_true] at hb
          obtain ⟨H, i1, i2⟩ := ho.inv
          obtain ⟨o1, o2, o3⟩ := (i2.2.2 _ hP.2.2.1 : oS kP H σ)
          obtain ⟨s1, s2, s3, s4, s5⟩ := (i2.2.2 _ hm : tS kP kF jT jB H σ)
          obtain ⟨zx, x1, x2⟩ := tag_get ho i1 qx
          obtain ⟨zq, q1, q2⟩ := tag_get ho i1 qq
          obtain ⟨zt, t1, t2⟩ := tag_get ho i1 qt
          have g1 := leAV_ok ho hb.1 x2 (y := -1) rfl
          have g2 := leAV_ok ho hb.2 (x := 0) rfl t2
          refine ph_set hP ho i2 ((((i1.del).del).set q2).set t2) (fun u hu => ?_) ⟨fun q' y b c => ?_, fun t' y b c => ?_, fun t' y b c => ?_⟩
          · have := otg_no hu
            rw [lk_hset, if_neg (by omega), lk_hset, if_neg (by omega), lk_hdel, if_neg (by omega), lk_hdel, if_neg (by omega)]
          · rw [lk_hset, if_neg (by decide), lk_hset, if_neg (by decide), lk_hdel, if_pos rfl] at b
            cases b
          · rw [lk_hset, if_neg (by decide), lk_hset, if_neg (by decide), lk_hdel, if_neg (by decide), lk_hdel, if_neg (by decide)] at b c
            exact o2 t' y b c
          · rw [lk_hset, if_pos rfl] at b
            rw [lk_hset, if_neg (by decide), lk_hset, if_pos rfl] at c
            rw [← Option.some.inj b, ← Option.some.inj c]
            exact fun h => un_neg (by omega) g2 (s5 zq zt zx q1 t1 x1 h)
      · exact ho
    · exact ho
  · exact ho
noncomputable def h89 (s : Sy) : Option Sy := match lk s.hl 524 with
  | some t => match lk s.hl 525 with
    | some x => bif eqA s t x then none else some s
    | none => some s
  | none => some s
theorem h89_ok (hm : co kP ∈ cs) (ho : Ok (Jf T G (cS cs)) s ρ σ) : ∃ s', h89 s = some s' ∧ Ok (Jf T G (cS cs)) s' ρ σ := by
  unfold h89
  split
  · rename_i t qt
    split
    · rename_i x qx
      cases hb : eqA s t x with
      | false => exact ⟨s, rfl, ho⟩
      | true =>
        obtain ⟨H, i1, i2⟩ := ho.inv
        obtain ⟨o1, o2, o3⟩ := (i2.2.2 _ hm : oS kP H σ)
        obtain ⟨zx, x1, x2⟩ := tag_get ho i1 qx
        obtain ⟨zt, t1, t2⟩ := tag_get ho i1 qt
        have e := eqA_ok ho hb t2 x2
        exact absurd (⟨0, e.symm⟩ : Un (Pp σ kP) zt zx) (o3 zt zx t1 x1)
    · exact ⟨s, rfl, ho⟩
  · exact ⟨s, rfl, ho⟩
noncomputable def h90 (s : Sy) : Option Sy := match lk s.hl 522 with
  | some t => match lk s.hl 523 with
    | some x => bif leAV s x (.c (-1)) && leAV s (.c 0) t then none else some s
    | none => some s
  | none => some s
theorem h90_ok (hm : co kP ∈ cs) (ho : Ok (Jf T G (cS cs)) s ρ σ) : ∃ s', h90 s = some s' ∧ Ok (Jf T G (cS cs)) s' ρ σ := by
  unfold h90
  split
  · rename_i t qt
    split
    · rename_i x qx
      cases hb : leAV s x (.c (-1)) && leAV s (.c 0) t with
      | false => exact ⟨s, rfl, ho⟩
      | true =>
        rw [Bool.and_eq_true] at hb
        obtain ⟨H, i1, i2⟩ := ho.inv
        obtain ⟨o1, o2, o3⟩ := (i2.2.2 _ hm : oS kP H σ)
        obtain ⟨zx, x1, x2⟩ := tag_get ho i1 qx
        obtain ⟨zt, t1, t2⟩ := tag_get ho i1 qt
        have g1 := leAV_ok ho hb.1 x2 (y := -1) rfl
        have g2 := leAV_ok ho hb.2 (x := 0) rfl t2
        exact absurd (o2 zt zx t1 x1) (un_neg (by omega) g2)
    · exact ⟨s, rfl, ho⟩
  · exact ⟨s, rfl, ho⟩
noncomputable def h92 (s : Sy) : Sy := s.seth (hdel 520 (hdel 521 (hdel 522 (hdel 523 (hdel 524 (hdel 525 s.hl))))))
theorem h92_ok (hP : PH T G cs (co kP)) (ho : Ok (Jf T G (cS cs)) s ρ σ) : Ok (Jf T G (cS cs)) (h92 s) ρ σ := by
  obtain ⟨H, i1, i2⟩ := ho.inv
  refine ph_set hP ho i2 ((((((i1.del).del).del).del).del).del) (fun u hu => ?_) ⟨fun q x b => ?_, fun t x b => ?_, fun t x b => ?_⟩
  · have := otg_no hu
    rw [lk_hdel, if_neg (by omega), lk_hdel, if_neg (by omega), lk_hdel, if_neg (by omega), lk_hdel, if_neg (by omega), lk_hdel, if_neg (by omega), lk_hdel, if_neg (by omega)]
  · rw [lk_hdel, if_pos rfl] at b; cases b
  · rw [lk_hdel, if_neg (by decide), lk_hdel, if_neg (by decide), lk_hdel, if_pos rfl] at b; cases b
  · rw [lk_hdel, if_neg (by decide), lk_hdel, if_neg (by decide), lk_hdel, if_neg (by decide), lk_hdel, if_neg (by decide), lk_hdel, if_pos rfl] at b; cases b
end H31
end
end
section
noncomputable section
/-! ===== WHAT ELSE HOLDS, 31: what the reference holds at a place, kept by tags; a place that is the same (61, 93, 94) ===== -/
noncomputable def mfd : List (Nat × Nat) → Nat → Option Nat
  | [], _ => none
  | e :: L, t => bif Nat.beq e.1 t then some e.2 else mfd L t
theorem mfd_mem : ∀ {L : List (Nat × Nat)} {t k : Nat}, mfd L t = some k → (t, k) ∈ L
  | [], _, _, h => by cases h
  | (u, q) :: L, t, k, h => by
    unfold mfd at h
    cases hb : Nat.beq u t with
    | true =>
      replace h : (bif Nat.beq u t then some q else mfd L t) = some k := h
      rw [hb] at h
      have e1 := Nat.eq_of_beq_eq_true hb
      have e2 : q = k := Option.some.inj h
      subst e1 e2
      exact List.mem_cons_self ..
    | false =>
      replace h : (bif Nat.beq u t then some q else mfd L t) = some k := h
      rw [hb] at h
      exact List.mem_cons_of_mem _ (mfd_mem h)
noncomputable def mtg (t : Nat) : Bool := Nat.ble 540 t && Nat.ble t 555
noncomputable def mApt (L : List (Nat × Nat)) : Bool := L.all fun e => (Nat.ble 540 e.1 && Nat.ble e.1 552) && Nat.beq (e.1 % 4) 0
theorem mApt_ok {L : List (Nat × Nat)} (h : mApt L = true) {t k : Nat} (hm : mfd L t = some k) : 540 ≤ t ∧ t ≤ 552 ∧ t % 4 = 0 := by
  have h9 : ((Nat.ble 540 t && Nat.ble t 552) && Nat.beq (t % 4) 0) = true := List.all_eq_true.mp h _ (mfd_mem hm)
  simp only [Bool.and_eq_true] at h9
  exact ⟨Nat.le_of_ble_eq_true h9.1.1, Nat.le_of_ble_eq_true h9.1.2, Nat.eq_of_beq_eq_true h9.2⟩
theorem mtg_no {u : Nat} (h : mtg u = false) : ¬ (540 ≤ u ∧ u ≤ 555) := fun q => by
  have : mtg u = true := by
    show (Nat.ble 540 u && Nat.ble u 555) = true
    rw [Bool.and_eq_true]
    exact ⟨Nat.ble_eq_true_of_le q.1, Nat.ble_eq_true_of_le q.2⟩
  rw [this] at h
  cases h
/-- at t a place, at t + 1 what the row holds there -/
noncomputable def mS (L : List (Nat × Nat)) (H : List (Nat × Int)) (σ : zS) : Prop := ∀ t k, mfd L t = some k → ∀ x v, lk H t = some x → lk H (t + 1) = some v → ∃ i : Nat, x = (i : Int) ∧ (σ.1 k i).toInt = v
noncomputable def cm (L : List (Nat × Nat)) : Cp := (mtg, (mS L, (fun q => L.any fun e => Nat.beq q e.2, (fun _ hl k _ _ => bif L.all (fun e => !(Nat.beq k e.2) || !(isS (lk hl e.1))) then some hl else none, nlw))))
theorem cm_ok {T : Jx} {G : Gl} {L : List (Nat × Nat)} (hL : mApt L = true) : CpOk T G (cm L) := by
  apply CpOk.no (fun _ => rfl)
  have tin : ∀ u, 540 ≤ u → u ≤ 555 → mtg u = true := fun u h1 h2 => by
    show (Nat.ble 540 u && Nat.ble u 555) = true
    rw [Bool.and_eq_true]
    exact ⟨Nat.ble_eq_true_of_le h1, Nat.ble_eq_true_of_le h2⟩
  refine ⟨fun u hu => ?_, fun H H' σ σ' h1 h2 hS => ?_, ?_⟩
  · have hu : (Nat.ble 540 u && Nat.ble u 555) = true := hu
    rw [Bool.and_eq_true] at hu
    have := Nat.le_of_ble_eq_true hu.1
    omega
  · show mS L H' σ'
    replace hS : mS L H σ := hS
    intro t k hm x v a b
    obtain ⟨g1, g2, _⟩ := mApt_ok hL hm
    rw [h1 t (tin t (by omega) (by omega))] at a
    rw [h1 (t + 1) (tin _ (by omega) (by omega))] at b
    rw [h2 k (List.any_eq_true.mpr ⟨(t, k), mfd_mem hm, Nat.beq_refl k⟩)]
    exact hS t k hm x v a b
  · intro s ρ σ k p v j x hl hl' H ho hb hp hi hv hx hr hw hh hS
    replace hw : (bif L.all (fun e => !(Nat.beq k e.2) || !(isS (lk hl e.1))) then some hl else none) = some hl' := hw
    replace hS : mS L H σ := hS
    cases hc : L.all (fun e => !(Nat.beq k e.2) || !(isS (lk hl e.1))) with
    | false => rw [hc] at hw; cases hw
    | true =>
      rw [hc] at hw
      cases Option.some.inj hw
      refine ⟨H, hh, ?_, fun _ _ => rfl⟩
      show mS L H (zI σ k j x)
      intro t q hm y w a b
      by_cases e : k = q
      · have h9 : (!(Nat.beq k q) || !(isS (lk hl t))) = true := List.all_eq_true.mp hc _ (mfd_mem hm)
        rcases hh.lkp (t := t) with ⟨_, q2⟩ | ⟨a', z, q1, _, _⟩
        · rw [q2] at a; cases a
        · rw [e, Nat.beq_refl, q1] at h9
          cases h9
      · obtain ⟨i, c1, c2⟩ := hS t q hm y w a b
        exact ⟨i, c1, by rw [zI_ne (by rintro ⟨e', _⟩; exact e e'.symm)]; exact c2⟩
section H32
variable {T : Jx} {G : Gl} {cs : List Cp} {s : Sy} {ρ : List Int} {σ : zS} {L : List (Nat × Nat)}
noncomputable def h93 (L : List (Nat × Nat)) (t : Nat) (a : AV) (s : Sy) : Sy := match mfd L t with
  | some k => match oth s k a with
    | some w => bif a.isI && !(isS (lk s.hl t)) then s.seth (hset t a (hset (t + 1) w s.hl)) else s
    | none => s
  | none => s
theorem h93_ok (hL : mApt L = true) (hP : PH T G cs (cm L)) {t : Nat} {a : AV} {j : Nat} (hz : ev ρ a = some (j : Int)) (ho : Ok (Jf T G (cS cs)) s ρ σ) : Ok (Jf T G (cS cs)) (h93 L t a s) ρ σ := by
  unfold h93
  split
  · rename_i k hm
    split
    · rename_i w hw
      cases hc : a.isI && !(isS (lk s.hl t)) with
      | false => exact ho
      | true =>
        obtain ⟨H, i1, i2⟩ := ho.inv
        have hS : mS L H σ := i2.2.2 _ hP.2.2.1
        obtain ⟨g1, g2, g3⟩ := mApt_ok hL hm
        obtain ⟨o1, o2⟩ := oth_ok ho hw hz
        refine ph_set hP ho i2 ((i1.set o2).set hz) (fun u hu => ?_) (show mS L _ σ from fun t' k' hm' x v b c => ?_)
        · have := mtg_no hu
          rw [lk_hset, if_neg (by omega), lk_hset, if_neg (by omega)]
        · obtain ⟨g1', g2', g3'⟩ := mApt_ok hL hm'
          by_cases e : t' = t
          · rw [e] at hm' b c
            rw [lk_hset, if_pos rfl] at b
            rw [lk_hset, if_neg (by omega), lk_hset, if_pos rfl] at c
            have ek : k = k' := Option.some.inj (hm.symm.trans hm')
            rw [← ek]
            exact ⟨j, (Option.some.inj b).symm, Option.some.inj c⟩
          · rw [lk_hset, if_neg e, lk_hset, if_neg (by omega)] at b
            rw [lk_hset, if_neg (by omega), lk_hset, if_neg (by omega)] at c
            exact hS t' k' hm' x v b c
    · exact ho
  · exact ho
theorem m_drop (hL : mApt L = true) (hP : PH T G cs (cm L)) {t k : Nat} (hm : mfd L t = some k) (ho : Ok (Jf T G (cS cs)) s ρ σ) : Ok (Jf T G (cS cs)) (s.seth (hdel t (hdel (t + 1) s.hl))) ρ σ := by
  obtain ⟨H, i1, i2⟩ := ho.inv
  have hS : mS L H σ := i2.2.2 _ hP.2.2.1
  obtain ⟨g1, g2, g3⟩ := mApt_ok hL hm
  refine ph_set hP ho i2 ((i1.del).del) (fun u hu => ?_) (show mS L _ σ from fun t' k' hm' x v b c => ?_)
  · have := mtg_no hu
    rw [lk_hdel, if_neg (by omega), lk_hdel, if_neg (by omega)]
  · obtain ⟨g1', g2', g3'⟩ := mApt_ok hL hm'
    by_cases e : t' = t
    · rw [e, lk_hdel, if_pos rfl] at b; cases b
    · rw [lk_hdel, if_neg e, lk_hdel, if_neg (by omega)] at b
      rw [lk_hdel, if_neg (by omega), lk_hdel, if_neg (by omega)] at c
      exact hS t' k' hm' x v b c
noncomputable def h94 (L : List (Nat × Nat)) (t : Nat) (s : Sy) : Sy := match mfd L t with
  | some k => match lk s.hl t with
    | some x => match lk s.hl (t + 1) with
      | some w => bif w.isI && (eqA s x (pl s x) && !(isS (mget s.me k (pl s x)))) then (s.add k (pl s x) w).seth (hdel t (hdel (t + 1) s.hl)) else s.seth (hdel t (hdel (t + 1) s.hl))
      | none => s
    | none => s
  | none => s
theorem h94_ok (hL : mApt L = true) (hP : PH T G cs (cm L)) {t : Nat} (ho : Ok (Jf T G (cS cs)) s ρ σ) : Ok (Jf T G (cS cs)) (h94 L t s) ρ σ := by
  unfold h94
  split
  · rename_i k hm
    split
    · rename_i x qx
      split
      · rename_i w qw
        cases hb : w.isI && (eqA s x (pl s x) && !(isS (mget s.me k (pl s x)))) with
        | false => exact m_drop hL hP hm ho
        | true =>
          simp only [Bool.and_eq_true] at hb
          obtain ⟨H, i1, i2⟩ := ho.inv
          have hS : mS L H σ := i2.2.2 _ hP.2.2.1
          obtain ⟨zx, x1, x2⟩ := tag_get ho i1 qx
          obtain ⟨zw, w1, w2⟩ := tag_get ho i1 qw
          obtain ⟨j, c1, c2⟩ := hS t k hm zx zw x1 w1
          obtain ⟨y, hy⟩ := pl_ev (s := s) x2
          have e := eqA_ok ho hb.2.1 x2 hy
          have hf : Mf ρ σ (k, (pl s x, w)) := ⟨j, by rw [hy]; exact congrArg some (by omega), Or.inl ⟨hb.1, by rw [w2, c2]⟩⟩
          exact m_drop (s := s.add k (pl s x) w) hL hP hm (ho.addm hf)
      · exact ho
    · exact ho
  · exact ho
end H32
section H33
variable {J : Jt} {s : Sy} {ρ : List Int} {σ : zS}
/-- 61: what is known of a row at a place that is the same -/
noncomputable def hsm (k : Nat) (a : AV) (s : Sy) : List (Nat × (AV × AV)) → Sy
  | [] => s
  | e :: r => bif Nat.beq e.1 k && eqA s e.2.1 a then s.add k (pl s a) e.2.2 else hsm k a s r
theorem hsm_ok {k : Nat} {a : AV} {z : Int} (hz : ev ρ a = some z) (he : eqA s a (pl s a) = true) (ho : Ok J s ρ σ) : ∀ {es : List (Nat × (AV × AV))}, (∀ e ∈ es, Mf ρ σ e) → Ok J (hsm k a s es) ρ σ
  | [], _ => ho
  | (q, (p, w)) :: r, hes => by
    unfold hsm
    cases hb : Nat.beq q k && eqA s p a with
    | false => exact hsm_ok hz he ho (fun e' h => hes e' (List.mem_cons_of_mem _ h))
    | true =>
      rw [Bool.and_eq_true] at hb
      have ek := Nat.eq_of_beq_eq_true hb.1
      subst ek
      obtain ⟨j, f1, f2⟩ := hes _ (List.mem_cons_self ..)
      have e1 := eqA_ok ho hb.2 f1 hz
      obtain ⟨y, hy⟩ := pl_ev (s := s) hz
      have e2 := eqA_ok ho he hz hy
      exact ho.addm ⟨j, by rw [hy]; exact congrArg some (by omega), f2⟩
noncomputable def h61 (k : Nat) (a : AV) (s : Sy) : Sy := bif eqA s a (pl s a) && !(isS (mget s.me k (pl s a))) then hsm k a s s.me else s
theorem h61_ok {k : Nat} {a : AV} {z : Int} (hz : ev ρ a = some z) (ho : Ok J s ρ σ) : Ok J (h61 k a s) ρ σ := by
  unfold h61
  cases hb : eqA s a (pl s a) && !(isS (mget s.me k (pl s a))) with
  | false => exact ho
  | true =>
    rw [Bool.and_eq_true] at hb
    exact hsm_ok hz hb.1 ho (fun e h => ho.me e h)
end H33
end
end
