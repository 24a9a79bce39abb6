noncomputable section
/-! ===== WHAT ELSE HOLDS, 27: rows of both sides that hold the same ===== -/
/-- a pair: its tag; a row and where it begins, twice; how many places -/
abbrev Ep : Type := Nat × (Nat × (Nat × (Nat × (Nat × Nat))))
/-- k1 from b1 on and k2 from b2 on hold the same at n places; t: one place where they needn't; t + 1: what k1 holds there; t + 2: what k2 holds there -/
def eS (t k1 b1 k2 b2 n : Nat) (H : List (Nat × Int)) (σ : zS) : Prop :=
  (lk H t = none → ∀ i : Nat, i < n → σ.1 k1 (b1 + i) = σ.1 k2 (b2 + i)) ∧
  ∀ z, lk H t = some z → ∃ j : Nat, z = (j : Int) ∧ j < n ∧ (∀ i : Nat, i < n → i ≠ j → σ.1 k1 (b1 + i) = σ.1 k2 (b2 + i)) ∧
    (∀ y, lk H (t + 1) = some y → (σ.1 k1 (b1 + j)).toInt = y) ∧ (∀ y, lk H (t + 2) = some y → (σ.1 k2 (b2 + j)).toInt = y)
def eqA (s : Sy) (a b : AV) : Bool := leAV s a b && leAV s b a
/-- what is known of the row k at r -/
def oth (s : Sy) (k : Nat) (r : AV) : Option AV := match mget s.me k (pl s r) with
  | some w => bif w.isI && eqA s r (pl s r) then some w else none
  | none => none
def ewH (t b1 k2 b2 n : Nat) (s : Sy) (hl : List (Nat × AV)) (p v : AV) : Option (List (Nat × AV)) :=
  bif leAV s p (.c ((b1 : Int) - 1)) || leAV s (.c ((b1 : Int) + n)) p then some hl
  else bif leAV s (.c (b1 : Int)) p && leAV s p (.c ((b1 : Int) + n - 1)) then (match lk hl t with
    | none => match oth s k2 (shA p ((b2 : Int) - b1)) with
      | some w => bif eqA s v w then some hl else some (hset t (shA p (-(b1 : Int))) (hset (t + 1) v (hset (t + 2) w hl)))
      | none => some (hset t (shA p (-(b1 : Int))) (hset (t + 1) v (hdel (t + 2) hl)))
    | some x => bif eqA s x (shA p (-(b1 : Int))) then some (hset (t + 1) v hl) else none)
  else none
def ewM (t k1 b1 b2 n : Nat) (s : Sy) (hl : List (Nat × AV)) (p v : AV) : Option (List (Nat × AV)) :=
  bif leAV s p (.c ((b2 : Int) - 1)) || leAV s (.c ((b2 : Int) + n)) p then some hl
  else bif leAV s (.c (b2 : Int)) p && leAV s p (.c ((b2 : Int) + n - 1)) then (match lk hl t with
    | none => match oth s k1 (shA p ((b1 : Int) - b2)) with
      | some w => bif eqA s v w then some hl else none
      | none => none
    | some x => match lk hl (t + 1) with
      | some y => bif eqA s x (shA p (-(b2 : Int))) then (bif eqA s v y then some (hdel t (hdel (t + 1) (hdel (t + 2) hl))) else some (hset (t + 2) v hl)) else none
      | none => none)
  else none
section C27
variable {J : Jt} {s : Sy} {ρ : List Int} {σ : zS}
theorem eqA_ok {a b : AV} {x y : Int} (ho : Ok J s ρ σ) (h : eqA s a b = true) (ha : ev ρ a = some x) (hb : ev ρ b = some y) : x = y := by
  unfold eqA at h
  rw [Bool.and_eq_true] at h
  have h1 := leAV_ok ho h.1 ha hb
  have h2 := leAV_ok ho h.2 hb ha
  omega
theorem oth_ok (ho : Ok J s ρ σ) {k j : Nat} {r w : AV} (h : oth s k r = some w) (hr : ev ρ r = some (j : Int)) : w.isI = true ∧ ev ρ w = some (σ.1 k j).toInt := by
  unfold oth at h
  split at h
  · rename_i w' hm
    cases hc : w'.isI && eqA s r (pl s r) with
    | false => rw [hc] at h; cases h
    | true =>
      rw [hc] at h
      cases Option.some.inj h
      rw [Bool.and_eq_true] at hc
      obtain ⟨j', q1, q2⟩ := ho.me _ (mget_mem hm)
      have e := eqA_ok ho hc.2 hr q1
      have ej : j' = j := by omega
      subst ej
      exact ⟨hc.1, me_at ho hm q1 hc.1⟩
  · cases h
theorem ewH_ok {t k1 b1 k2 b2 n j : Nat} {p v : AV} {x : Int32} {hl hl' : List (Nat × AV)} {H : List (Nat × Int)} (hk : k1 ≠ k2) (ho : Ok J s ρ σ) (hp : ev ρ p = some (j : Int)) (hx : ev ρ v = some x.toInt) (hw : ewH t b1 k2 b2 n s hl p v = some hl') (hh : Hl ρ hl H) (hS : eS t k1 b1 k2 b2 n H σ) : ∃ H', Hl ρ hl' H' ∧ eS t k1 b1 k2 b2 n H' (zI σ k1 j x) ∧ ∀ u, u ≠ t → u ≠ t + 1 → u ≠ t + 2 → lk H' u = lk H u := by
  have base : ∀ i : Nat, b1 + i ≠ j → (zI σ k1 j x).1 k1 (b1 + i) = σ.1 k1 (b1 + i) := fun i h => zI_ne (by rintro ⟨_, q⟩; exact h q)
  have row2 : (zI σ k1 j x).1 k2 = σ.1 k2 := zI_row hk.symm
  unfold ewH at hw
  cases e1 : leAV s p (.c ((b1 : Int) - 1)) || leAV s (.c ((b1 : Int) + n)) p with
  | true =>
    rw [e1] at hw
    cases Option.some.inj hw
    have out : ∀ i : Nat, i < n → b1 + i ≠ j := by
      intro i hi
      rw [Bool.or_eq_true] at e1
      rcases e1 with e1 | e1
      · have := leAV_ok ho e1 hp (y := (b1 : Int) - 1) rfl
        omega
      · have := leAV_ok ho e1 (x := (b1 : Int) + n) rfl hp
        omega
    refine ⟨H, hh, ⟨fun q i hi => by rw [base i (out i hi), row2]; exact hS.1 q i hi, fun z q => ?_⟩, fun _ _ _ _ => rfl⟩
    obtain ⟨i0, c1, c2, c3, c4, c5⟩ := hS.2 z q
    exact ⟨i0, c1, c2, fun i hi hne => by rw [base i (out i hi), row2]; exact c3 i hi hne, fun y q => by rw [base i0 (out i0 c2)]; exact c4 y q, fun y q => by rw [row2]; exact c5 y q⟩
  | false =>
    rw [e1] at hw
    simp only [cond_false] at hw
    cases e2 : leAV s (.c (b1 : Int)) p && leAV s p (.c ((b1 : Int) + n - 1)) with
    | false => rw [e2] at hw; cases hw
    | true =>
      rw [e2] at hw
      simp only [cond_true] at hw
      rw [Bool.and_eq_true] at e2
      have g1 := leAV_ok ho e2.1 (x := (b1 : Int)) rfl hp
      have g2 := leAV_ok ho e2.2 hp (y := (b1 : Int) + n - 1) rfl
      obtain ⟨i0, hi0⟩ : ∃ i0 : Nat, j = b1 + i0 := ⟨j - b1, by omega⟩
      have hlt : i0 < n := by omega
      subst hi0
      have hpa : ev ρ (shA p (-(b1 : Int))) = some (i0 : Int) := (shA_ev hp).trans (congrArg some (by omega))
      have hpr : ev ρ (shA p ((b2 : Int) - b1)) = some ((b2 + i0 : Nat) : Int) := (shA_ev hp).trans (congrArg some (by omega))
      have new : (zI σ k1 (b1 + i0) x).1 k1 (b1 + i0) = x := zI_at
      have rest : (∀ i : Nat, i < n → i ≠ i0 → σ.1 k1 (b1 + i) = σ.1 k2 (b2 + i)) → ∀ i : Nat, i < n → i ≠ i0 → (zI σ k1 (b1 + i0) x).1 k1 (b1 + i) = (zI σ k1 (b1 + i0) x).1 k2 (b2 + i) := fun h i hi hne => by rw [base i (by omega), row2]; exact h i hi hne
      rcases hh.lkp (t := t) with ⟨q1, q2⟩ | ⟨a, z, q1, q2, q3⟩
      · rw [q1] at hw
        have all := hS.1 q2
        cases e3 : oth s k2 (shA p ((b2 : Int) - b1)) with
        | none =>
          rw [e3] at hw
          cases Option.some.inj hw
          refine ⟨hset t (i0 : Int) (hset (t + 1) x.toInt (hdel (t + 2) H)), ((hh.del).set hx).set hpa, ⟨fun q => ?_, fun z q => ?_⟩, fun u u0 u1 u2 => ?_⟩
          · rw [lk_hset, if_pos rfl] at q; cases q
          · rw [lk_hset, if_pos rfl] at q
            cases Option.some.inj q
            refine ⟨i0, rfl, hlt, rest (fun i hi _ => all i hi), fun y q => ?_, fun y q => ?_⟩
            · rw [lk_hset, if_neg (by omega), lk_hset, if_pos rfl] at q
              rw [new]; exact Option.some.inj q
            · rw [lk_hset, if_neg (by omega), lk_hset, if_neg (by omega), lk_hdel, if_pos rfl] at q
              cases q
          · rw [lk_hset, if_neg u0, lk_hset, if_neg u1, lk_hdel, if_neg u2]
        | some w =>
          obtain ⟨w1, w2⟩ := oth_ok ho e3 hpr
          rw [e3] at hw
          replace hw : (bif eqA s v w then some hl else some (hset t (shA p (-(b1 : Int))) (hset (t + 1) v (hset (t + 2) w hl)))) = some hl' := hw
          cases e4 : eqA s v w with
          | true =>
            rw [e4] at hw
            cases Option.some.inj hw
            have exw : x = σ.1 k2 (b2 + i0) := Int32.toInt_inj.mp (eqA_ok ho e4 hx w2)
            refine ⟨H, hh, ⟨fun _ i hi => ?_, fun z q => by rw [q2] at q; cases q⟩, fun _ _ _ _ => rfl⟩
            by_cases e : i = i0
            · rw [e, new, row2]; exact exw
            · exact rest (fun i hi _ => all i hi) i hi e
          | false =>
            rw [e4] at hw
            cases Option.some.inj hw
            refine ⟨hset t (i0 : Int) (hset (t + 1) x.toInt (hset (t + 2) (σ.1 k2 (b2 + i0)).toInt H)), ((hh.set w2).set hx).set hpa, ⟨fun q => ?_, fun z q => ?_⟩, fun u u0 u1 u2 => ?_⟩
            · rw [lk_hset, if_pos rfl] at q; cases q
            · rw [lk_hset, if_pos rfl] at q
              cases Option.some.inj q
              refine ⟨i0, rfl, hlt, rest (fun i hi _ => all i hi), fun y q => ?_, fun y q => ?_⟩
              · rw [lk_hset, if_neg (by omega), lk_hset, if_pos rfl] at q
                rw [new]; exact Option.some.inj q
              · rw [lk_hset, if_neg (by omega), lk_hset, if_neg (by omega), lk_hset, if_pos rfl] at q
                rw [row2]; exact Option.some.inj q
            · rw [lk_hset, if_neg u0, lk_hset, if_neg u1, lk_hset, if_neg u2]
      · rw [q1] at hw
        replace hw : (bif eqA s a (shA p (-(b1 : Int))) then some (hset (t + 1) v hl) else none) = some hl' := hw
        cases e3 : eqA s a (shA p (-(b1 : Int))) with
        | false => rw [e3] at hw; cases hw
        | true =>
          rw [e3] at hw
          cases Option.some.inj hw
          have ez := eqA_ok ho e3 q3 hpa
          obtain ⟨i1, c1, c2, c3, c4, c5⟩ := hS.2 z q2
          have e01 : i1 = i0 := by omega
          subst e01
          refine ⟨hset (t + 1) x.toInt H, hh.set hx, ⟨fun q => ?_, fun z' q => ?_⟩, fun u u0 u1 u2 => ?_⟩
          · rw [lk_hset, if_neg (by omega), q2] at q; cases q
          · rw [lk_hset, if_neg (by omega), q2] at q
            cases Option.some.inj q
            refine ⟨i1, c1, c2, rest c3, fun y q => ?_, fun y q => ?_⟩
            · rw [lk_hset, if_pos rfl] at q
              rw [new]; exact Option.some.inj q
            · rw [lk_hset, if_neg (by omega)] at q
              rw [row2]; exact c5 y q
          · rw [lk_hset, if_neg u1]
theorem ewM_ok {t k1 b1 k2 b2 n j : Nat} {p v : AV} {x : Int32} {hl hl' : List (Nat × AV)} {H : List (Nat × Int)} (hk : k1 ≠ k2) (ho : Ok J s ρ σ) (hp : ev ρ p = some (j : Int)) (hx : ev ρ v = some x.toInt) (hw : ewM t k1 b1 b2 n s hl p v = some hl') (hh : Hl ρ hl H) (hS : eS t k1 b1 k2 b2 n H σ) : ∃ H', Hl ρ hl' H' ∧ eS t k1 b1 k2 b2 n H' (zI σ k2 j x) ∧ ∀ u, u ≠ t → u ≠ t + 1 → u ≠ t + 2 → lk H' u = lk H u := by
  have base : ∀ i : Nat, b2 + i ≠ j → (zI σ k2 j x).1 k2 (b2 + i) = σ.1 k2 (b2 + i) := fun i h => zI_ne (by rintro ⟨_, q⟩; exact h q)
  have row1 : (zI σ k2 j x).1 k1 = σ.1 k1 := zI_row hk
  unfold ewM at hw
  cases e1 : leAV s p (.c ((b2 : Int) - 1)) || leAV s (.c ((b2 : Int) + n)) p with
  | true =>
    rw [e1] at hw
    cases Option.some.inj hw
    have out : ∀ i : Nat, i < n → b2 + i ≠ j := by
      intro i hi
      rw [Bool.or_eq_true] at e1
      rcases e1 with e1 | e1
      · have := leAV_ok ho e1 hp (y := (b2 : Int) - 1) rfl
        omega
      · have := leAV_ok ho e1 (x := (b2 : Int) + n) rfl hp
        omega
    refine ⟨H, hh, ⟨fun q i hi => by rw [base i (out i hi), row1]; exact hS.1 q i hi, fun z q => ?_⟩, fun _ _ _ _ => rfl⟩
    obtain ⟨i0, c1, c2, c3, c4, c5⟩ := hS.2 z q
    exact ⟨i0, c1, c2, fun i hi hne => by rw [base i (out i hi), row1]; exact c3 i hi hne, fun y q => by rw [row1]; exact c4 y q, fun y q => by rw [base i0 (out i0 c2)]; exact c5 y q⟩
  | false =>
    rw [e1] at hw
    simp only [cond_false] at hw
    cases e2 : leAV s (.c (b2 : Int)) p && leAV s p (.c ((b2 : Int) + n - 1)) with
    | false => rw [e2] at hw; cases hw
    | true =>
      rw [e2] at hw
      simp only [cond_true] at hw
      rw [Bool.and_eq_true] at e2
      have g1 := leAV_ok ho e2.1 (x := (b2 : Int)) rfl hp
      have g2 := leAV_ok ho e2.2 hp (y := (b2 : Int) + n - 1) rfl
      obtain ⟨i0, hi0⟩ : ∃ i0 : Nat, j = b2 + i0 := ⟨j - b2, by omega⟩
      have hlt : i0 < n := by omega
      subst hi0
      have hpa : ev ρ (shA p (-(b2 : Int))) = some (i0 : Int) := (shA_ev hp).trans (congrArg some (by omega))
      have hpr : ev ρ (shA p ((b1 : Int) - b2)) = some ((b1 + i0 : Nat) : Int) := (shA_ev hp).trans (congrArg some (by omega))
      have new : (zI σ k2 (b2 + i0) x).1 k2 (b2 + i0) = x := zI_at
      have rest : (∀ i : Nat, i < n → i ≠ i0 → σ.1 k1 (b1 + i) = σ.1 k2 (b2 + i)) → ∀ i : Nat, i < n → i ≠ i0 → (zI σ k2 (b2 + i0) x).1 k1 (b1 + i) = (zI σ k2 (b2 + i0) x).1 k2 (b2 + i) := fun h i hi hne => by rw [base i (by omega), row1]; exact h i hi hne
      rcases hh.lkp (t := t) with ⟨q1, q2⟩ | ⟨a, z, q1, q2, q3⟩
      · rw [q1] at hw
        have all := hS.1 q2
        cases e3 : oth s k1 (shA p ((b1 : Int) - b2)) with
        | none => rw [e3] at hw; cases hw
        | some w =>
          obtain ⟨w1, w2⟩ := oth_ok ho e3 hpr
          rw [e3] at hw
          replace hw : (bif eqA s v w then some hl else none) = some hl' := hw
          cases e4 : eqA s v w with
          | true =>
            rw [e4] at hw
            cases Option.some.inj hw
            have exw : x = σ.1 k1 (b1 + i0) := Int32.toInt_inj.mp (eqA_ok ho e4 hx w2)
            refine ⟨H, hh, ⟨fun _ i hi => ?_, fun z q => by rw [q2] at q; cases q⟩, fun _ _ _ _ => rfl⟩
            by_cases e : i = i0
            · rw [e, new, row1]; exact exw.symm
            · exact rest (fun i hi _ => all i hi) i hi e
          | false => rw [e4] at hw; cases hw
      · rw [q1] at hw
        rcases hh.lkp (t := t + 1) with ⟨r1, r2⟩ | ⟨b, y, r1, r2, r3⟩
        · rw [r1] at hw; cases hw
        · rw [r1] at hw
          replace hw : (bif eqA s a (shA p (-(b2 : Int))) then (bif eqA s v b then some (hdel t (hdel (t + 1) (hdel (t + 2) hl))) else some (hset (t + 2) v hl)) else none) = some hl' := hw
          cases e3 : eqA s a (shA p (-(b2 : Int))) with
          | false => rw [e3] at hw; cases hw
          | true =>
            rw [e3] at hw
            simp only [cond_true] at hw
            have ez := eqA_ok ho e3 q3 hpa
            obtain ⟨i1, c1, c2, c3, c4, c5⟩ := hS.2 z q2
            have e01 : i1 = i0 := by omega
            subst e01
            cases e4 : eqA s v b with
            | false =>
              rw [e4] at hw
              cases Option.some.inj hw
              refine ⟨hset (t + 2) x.toInt H, hh.set hx, ⟨fun q => ?_, fun z' q => ?_⟩, fun u u0 u1 u2 => ?_⟩
              · rw [lk_hset, if_neg (by omega), q2] at q; cases q
              · rw [lk_hset, if_neg (by omega), q2] at q
                cases Option.some.inj q
                refine ⟨i1, c1, c2, rest c3, fun y q => ?_, fun y q => ?_⟩
                · rw [lk_hset, if_neg (by omega)] at q
                  rw [row1]; exact c4 y q
                · rw [lk_hset, if_pos rfl] at q
                  rw [new]; exact Option.some.inj q
              · rw [lk_hset, if_neg u2]
            | true =>
            rw [e4] at hw
            cases Option.some.inj hw
            have ey := eqA_ok ho e4 hx r3
            refine ⟨hdel t (hdel (t + 1) (hdel (t + 2) H)), ((hh.del).del).del, ⟨fun _ i hi => ?_, fun z' q => ?_⟩, fun u u0 u1 u2 => ?_⟩
            · by_cases e : i = i1
              · rw [e, new, row1]
                exact Int32.toInt_inj.mp ((c4 y r2).trans ey.symm)
              · exact rest c3 i hi e
            · rw [lk_hdel, if_pos rfl] at q; cases q
            · rw [lk_hdel, if_neg u0, lk_hdel, if_neg u1, lk_hdel, if_neg u2]
end C27
/-- hint 60: what is known of a row, known of the other -/
def hsA (t ka ba kb bb n : Nat) : List (Nat × (AV × AV)) → Sy → Sy
  | [], s => s
  | e :: r, s => hsA t ka ba kb bb n r (bif (Nat.beq e.1 ka && e.2.2.isI) && ((leAV s (.c (ba : Int)) e.2.1 && leAV s e.2.1 (.c ((ba : Int) + n - 1))) && ((match lk s.hl t with
      | none => true
      | some x => leAV s (shA x 1) (shA e.2.1 (-(ba : Int))) || leAV s (shA e.2.1 (1 - (ba : Int))) x) && (!(isS (mget s.me kb (pl s (shA e.2.1 ((bb : Int) - ba))))) && eqA s (shA e.2.1 ((bb : Int) - ba)) (pl s (shA e.2.1 ((bb : Int) - ba))))))
    then s.add kb (pl s (shA e.2.1 ((bb : Int) - ba))) e.2.2 else s)
theorem pl_ev {s : Sy} {ρ : List Int} {a : AV} {x : Int} (h : ev ρ a = some x) : ∃ y, ev ρ (pl s a) = some y := by
  unfold pl
  split
  · rename_i u w _
    cases hb : ile w u with
    | true => exact ⟨u, rfl⟩
    | false => exact ⟨x, h⟩
  · exact ⟨x, h⟩
theorem hsA_ok {J : Jt} {ρ : List Int} {σ : zS} {t ka ba kb bb n : Nat} {H : List (Nat × Int)} (hS : ∀ i : Nat, i < n → (∀ z, lk H t = some z → z ≠ (i : Int)) → σ.1 ka (ba + i) = σ.1 kb (bb + i)) : ∀ {es : List (Nat × (AV × AV))} {s : Sy}, Ok J s ρ σ → (∀ e ∈ es, Mf ρ σ e) → Hl ρ s.hl H → Ok J (hsA t ka ba kb bb n es s) ρ σ ∧ (hsA t ka ba kb bb n es s).hl = s.hl
  | [], s, ho, _, _ => ⟨ho, rfl⟩
  | e :: r, s, ho, hes, hh => by
    unfold hsA
    have rest := fun e' he' => hes e' (List.mem_cons_of_mem e he')
    cases hb : (Nat.beq e.1 ka && e.2.2.isI) && ((leAV s (.c (ba : Int)) e.2.1 && leAV s e.2.1 (.c ((ba : Int) + n - 1))) && ((match lk s.hl t with
      | none => true
      | some x => leAV s (shA x 1) (shA e.2.1 (-(ba : Int))) || leAV s (shA e.2.1 (1 - (ba : Int))) x) && (!(isS (mget s.me kb (pl s (shA e.2.1 ((bb : Int) - ba))))) && eqA s (shA e.2.1 ((bb : Int) - ba)) (pl s (shA e.2.1 ((bb : Int) - ba)))))) with
    | false => exact hsA_ok hS ho rest hh
    | true =>
      simp only [cond_true]
      simp only [Bool.and_eq_true] at hb
      obtain ⟨⟨b1, b2⟩, ⟨b3, b4⟩, b5, b6, b7⟩ := hb
      have hk := Nat.eq_of_beq_eq_true b1
      obtain ⟨j, f1, f2⟩ := hes e (List.mem_cons_self ..)
      have f3 : ev ρ e.2.2 = some (σ.1 ka j).toInt := by
        rw [← hk]
        rcases f2 with ⟨_, f2⟩ | ⟨q, _⟩
        · exact f2
        · exact (isI_L b2 q).elim
      have g1 := leAV_ok ho b3 (x := (ba : Int)) rfl f1
      have g2 := leAV_ok ho b4 f1 (y := (ba : Int) + n - 1) rfl
      obtain ⟨i, hi⟩ : ∃ i : Nat, j = ba + i := ⟨j - ba, by omega⟩
      subst hi
      have hlt : i < n := by omega
      have hr : ev ρ (shA e.2.1 ((bb : Int) - ba)) = some ((bb + i : Nat) : Int) := (shA_ev f1).trans (congrArg some (by omega))
      obtain ⟨y, hy⟩ := pl_ev (s := s) hr
      have ey := eqA_ok ho b7 hr hy
      have hne : ∀ z, lk H t = some z → z ≠ (i : Int) := by
        intro z hz
        rcases hh.lkp (t := t) with ⟨q1, q2⟩ | ⟨a, z', q1, q2, q3⟩
        · rw [q2] at hz; cases hz
        · rw [q2] at hz
          cases Option.some.inj hz
          rw [q1] at b5
          replace b5 : (leAV s (shA a 1) (shA e.2.1 (-(ba : Int))) || leAV s (shA e.2.1 (1 - (ba : Int))) a) = true := b5
          rw [Bool.or_eq_true] at b5
          rcases b5 with b5 | b5
          · have := leAV_ok ho b5 (shA_ev q3) (shA_ev f1)
            omega
          · have := leAV_ok ho b5 (shA_ev f1) q3
            omega
      have hE := hS i hlt hne
      have hm : Mf ρ σ (kb, (pl s (shA e.2.1 ((bb : Int) - ba)), e.2.2)) := ⟨bb + i, by rw [hy, ← ey], Or.inl ⟨b2, by rw [f3, hE]⟩⟩
      exact hsA_ok hS (ho.addm hm) rest hh
/-- hint 62: at the open place: what the other row holds -/
def hop (t k2 b2 : Nat) (a : AV) (s : Sy) : Sy := match lk s.hl t with
  | some x => match lk s.hl (t + 2) with
    | some w => bif w.isI && (eqA s (shA x (b2 : Int)) a && (eqA s a (pl s a) && !(isS (mget s.me k2 (pl s a))))) then s.add k2 (pl s a) w else s
    | none => s
  | none => s
theorem hop_ok {J : Jt} {s : Sy} {ρ : List Int} {σ : zS} {t k1 b1 k2 b2 n : Nat} {a : AV} {y : Int} {H : List (Nat × Int)} (hS : eS t k1 b1 k2 b2 n H σ) (ho : Ok J s ρ σ) (hh : Hl ρ s.hl H) (ha : ev ρ a = some y) : Ok J (hop t k2 b2 a s) ρ σ := by
  unfold hop
  rcases hh.lkp (t := t) with ⟨q1, _⟩ | ⟨x, z, q1, q2, q3⟩
  · rw [q1]; exact ho
  · rw [q1]
    rcases hh.lkp (t := t + 2) with ⟨r1, _⟩ | ⟨w, u, r1, r2, r3⟩
    · rw [r1]; exact ho
    · rw [r1]
      show Ok J (bif w.isI && (eqA s (shA x (b2 : Int)) a && (eqA s a (pl s a) && !(isS (mget s.me k2 (pl s a))))) then s.add k2 (pl s a) w else s) ρ σ
      cases hb : w.isI && (eqA s (shA x (b2 : Int)) a && (eqA s a (pl s a) && !(isS (mget s.me k2 (pl s a))))) with
      | false => exact ho
      | true =>
        simp only [Bool.and_eq_true] at hb
        obtain ⟨b1', b2', b3', _⟩ := hb
        obtain ⟨j, c1, c2, c3, c4, c5⟩ := hS.2 z q2
        have e1 := eqA_ok ho b2' (shA_ev q3) ha
        obtain ⟨y', hy⟩ := pl_ev (s := s) ha
        have e2 := eqA_ok ho b3' ha hy
        have hm : Mf ρ σ (k2, (pl s a, w)) := ⟨b2 + j, by rw [hy]; exact congrArg some (by omega), Or.inl ⟨b1', by rw [r3, c5 u r2]⟩⟩
        exact ho.addm hm
/-! all pairs together -/
theorem eS_dep {t k1 b1 k2 b2 n : Nat} {H H' : List (Nat × Int)} {σ σ' : zS} (h0 : lk H' t = lk H t) (h1 : lk H' (t + 1) = lk H (t + 1)) (h2 : lk H' (t + 2) = lk H (t + 2)) (r1 : σ'.1 k1 = σ.1 k1) (r2 : σ'.1 k2 = σ.1 k2) (hS : eS t k1 b1 k2 b2 n H σ) : eS t k1 b1 k2 b2 n H' σ' := by
  refine ⟨fun q i hi => ?_, fun z q => ?_⟩
  · rw [r1, r2]
    exact hS.1 (by rw [← h0]; exact q) i hi
  · obtain ⟨j, c1, c2, c3, c4, c5⟩ := hS.2 z (by rw [← h0]; exact q)
    exact ⟨j, c1, c2, fun i hi hne => by rw [r1, r2]; exact c3 i hi hne, fun y q => by rw [r1]; exact c4 y (by rw [← h1]; exact q), fun y q => by rw [r2]; exact c5 y (by rw [← h2]; exact q)⟩
abbrev eSp (e : Ep) (H : List (Nat × Int)) (σ : zS) : Prop := eS e.1 e.2.1 e.2.2.1 e.2.2.2.1 e.2.2.2.2.1 e.2.2.2.2.2 H σ
def eww (s : Sy) (k : Nat) (p v : AV) : List Ep → List (Nat × AV) → Option (List (Nat × AV))
  | [], hl => some hl
  | e :: r, hl => bif Nat.beq k e.2.1 then (match ewH e.1 e.2.2.1 e.2.2.2.1 e.2.2.2.2.1 e.2.2.2.2.2 s hl p v with
      | some hl' => eww s k p v r hl'
      | none => none)
    else bif Nat.beq k e.2.2.2.1 then (match ewM e.1 e.2.1 e.2.2.1 e.2.2.2.2.1 e.2.2.2.2.2 s hl p v with
      | some hl' => eww s k p v r hl'
      | none => none)
    else eww s k p v r hl
def eApt : List Ep → Prop
  | [] => True
  | e :: r => (∀ e' ∈ r, e.1 + 3 ≤ e'.1) ∧ eApt r
theorem eww_ok {J : Jt} {s : Sy} {ρ : List Int} {σ : zS} {k j : Nat} {p v : AV} {x : Int32} (ho : Ok J s ρ σ) (hp : ev ρ p = some (j : Int)) (hx : ev ρ v = some x.toInt) : ∀ {PE : List Ep} {hl hl' : List (Nat × AV)} {H : List (Nat × Int)}, (∀ e ∈ PE, e.2.1 ≠ e.2.2.2.1) → eApt PE → eww s k p v PE hl = some hl' → Hl ρ hl H → (∀ e ∈ PE, eSp e H σ) → ∃ H', Hl ρ hl' H' ∧ (∀ e ∈ PE, eSp e H' (zI σ k j x)) ∧ ∀ u, (∀ e ∈ PE, u ≠ e.1 ∧ u ≠ e.1 + 1 ∧ u ≠ e.1 + 2) → lk H' u = lk H u
  | [], hl, hl', H, _, _, h, hh, _ => by
    cases Option.some.inj h
    exact ⟨H, hh, fun e he => (by cases he), fun _ _ => rfl⟩
  | e :: r, hl, hl', H, hk, ha, h, hh, hS => by
    have hk0 := hk e (List.mem_cons_self ..)
    have hkr : ∀ e' ∈ r, e'.2.1 ≠ e'.2.2.2.1 := fun e' q => hk e' (List.mem_cons_of_mem _ q)
    have hS0 := hS e (List.mem_cons_self ..)
    have hSr : ∀ e' ∈ r, eSp e' H σ := fun e' q => hS e' (List.mem_cons_of_mem _ q)
    unfold eww at h
    -- what a step on e leaves, and the rest
    have go : ∀ {hl1 : List (Nat × AV)} {H1 : List (Nat × Int)}, eww s k p v r hl1 = some hl' → Hl ρ hl1 H1 → eSp e H1 (zI σ k j x) → (∀ u, u ≠ e.1 → u ≠ e.1 + 1 → u ≠ e.1 + 2 → lk H1 u = lk H u) → ∃ H', Hl ρ hl' H' ∧ (∀ e' ∈ e :: r, eSp e' H' (zI σ k j x)) ∧ ∀ u, (∀ e' ∈ e :: r, u ≠ e'.1 ∧ u ≠ e'.1 + 1 ∧ u ≠ e'.1 + 2) → lk H' u = lk H u := by
      intro hl1 H1 g1 g2 g3 g4
      have h1 : ∀ e' ∈ r, eSp e' H1 σ := fun e' q => by
        have := ha.1 e' q
        exact eS_dep (g4 _ (by omega) (by omega) (by omega)) (g4 _ (by omega) (by omega) (by omega)) (g4 _ (by omega) (by omega) (by omega)) rfl rfl (hSr e' q)
      obtain ⟨H', a1, a2, a3⟩ := eww_ok ho hp hx hkr ha.2 g1 g2 h1
      have keep : ∀ u, u = e.1 ∨ u = e.1 + 1 ∨ u = e.1 + 2 → lk H' u = lk H1 u := fun u hu => a3 u (fun e' q => by
        have := ha.1 e' q
        omega)
      refine ⟨H', a1, fun e' q => ?_, fun u hu => ?_⟩
      · rcases List.mem_cons.mp q with rfl | q
        · exact eS_dep (keep _ (Or.inl rfl)) (keep _ (Or.inr (Or.inl rfl))) (keep _ (Or.inr (Or.inr rfl))) rfl rfl g3
        · exact a2 e' q
      · have u0 := hu e (List.mem_cons_self ..)
        exact (a3 u (fun e' q => hu e' (List.mem_cons_of_mem _ q))).trans (g4 u u0.1 u0.2.1 u0.2.2)
    cases e1 : Nat.beq k e.2.1 with
    | true =>
      rw [e1] at h
      have ek := Nat.eq_of_beq_eq_true e1
      simp only [cond_true] at h
      split at h
      · rename_i hl1 hw
        obtain ⟨H1, b1, b2, b3⟩ := ewH_ok (k1 := e.2.1) hk0 ho hp hx hw hh hS0
        exact go h b1 (by rw [ek]; exact b2) b3
      · cases h
    | false =>
      rw [e1] at h
      simp only [cond_false] at h
      cases e2 : Nat.beq k e.2.2.2.1 with
      | true =>
        rw [e2] at h
        have ek := Nat.eq_of_beq_eq_true e2
        simp only [cond_true] at h
        split at h
        · rename_i hl1 hw
          obtain ⟨H1, b1, b2, b3⟩ := ewM_ok (k2 := e.2.2.2.1) hk0 ho hp hx hw hh hS0
          exact go h b1 (by rw [ek]; exact b2) b3
        · cases h
      | false =>
        rw [e2] at h
        simp only [cond_false] at h
        exact go h hh (eS_dep rfl rfl rfl (zI_row (fun q => beq_ne e1 q.symm)) (zI_row (fun q => beq_ne e2 q.symm)) hS0) (fun _ _ _ _ => rfl)
def etg (t : Nat) : Bool := Nat.ble 400 t && Nat.blt t 500
def ceq (PE : List Ep) : Cp := (etg, (fun H σ => ∀ e ∈ PE, eSp e H σ, (fun q => PE.any fun e => Nat.beq q e.2.1 || Nat.beq q e.2.2.2.1, (fun s hl k p v => eww s k p v PE hl, nlw))))
theorem ceq_ok {T : Jx} {G : Gl} {PE : List Ep} (hk : ∀ e ∈ PE, e.2.1 ≠ e.2.2.2.1) (ha : eApt PE) (ht : ∀ e ∈ PE, 400 ≤ e.1 ∧ e.1 + 2 < 500) : CpOk T G (ceq PE) := by
  apply CpOk.no (fun _ => rfl)
  have tin : ∀ t : Nat, 400 ≤ t → t < 500 → etg t = true := fun t h1 h2 => by
    show (Nat.ble 400 t && Nat.blt t 500) = true
    rw [Bool.and_eq_true]
    exact ⟨Nat.ble_eq_true_of_le h1, Nat.ble_eq_true_of_le h2⟩
  refine ⟨fun u hu => ?_, fun H H' σ σ' h1 h2 hS e he => ?_, ?_⟩
  · have hu : (Nat.ble 400 u && Nat.blt u 500) = true := hu
    rw [Bool.and_eq_true] at hu
    have := Nat.le_of_ble_eq_true hu.1
    omega
  · have h0 := ht e he
    have g : ∀ q, Nat.beq q e.2.1 = true ∨ Nat.beq q e.2.2.2.1 = true → σ'.1 q = σ.1 q := fun q hq => h2 q (List.any_eq_true.mpr ⟨e, he, by rw [Bool.or_eq_true]; exact hq⟩)
    exact eS_dep (h1 _ (tin _ (by omega) (by omega))) (h1 _ (tin _ (by omega) (by omega))) (h1 _ (tin _ (by omega) (by omega))) (g _ (Or.inl (Nat.beq_refl _))) (g _ (Or.inr (Nat.beq_refl _))) (hS e he)
  · intro s ρ σ k p v j x hl hl' H ho hb hp hi hv hx hr hw hh hS
    obtain ⟨H', a1, a2, a3⟩ := eww_ok ho hp hx hk ha hw hh hS
    refine ⟨H', a1, a2, fun t hn => a3 t (fun e he => ?_)⟩
    have h0 := ht e he
    have nt : ¬ (400 ≤ t ∧ t < 500) := fun q => by
      rw [show (ceq PE).tg t = etg t from rfl, tin t q.1 q.2] at hn
      cases hn
    omega
/-- hint 60 for all pairs, both ways -/
def hsAll : List Ep → Sy → Sy
  | [], s => s
  | e :: r, s => hsAll r (hsA e.1 e.2.2.2.1 e.2.2.2.2.1 e.2.1 e.2.2.1 e.2.2.2.2.2 (hsA e.1 e.2.1 e.2.2.1 e.2.2.2.1 e.2.2.2.2.1 e.2.2.2.2.2 s.me s).me (hsA e.1 e.2.1 e.2.2.1 e.2.2.2.1 e.2.2.2.2.1 e.2.2.2.2.2 s.me s))
theorem eS_at {t k1 b1 k2 b2 n : Nat} {H : List (Nat × Int)} {σ : zS} (hS : eS t k1 b1 k2 b2 n H σ) (i : Nat) (hi : i < n) (hz : ∀ z, lk H t = some z → z ≠ (i : Int)) : σ.1 k1 (b1 + i) = σ.1 k2 (b2 + i) := by
  cases q : lk H t with
  | none => exact hS.1 q i hi
  | some z =>
    obtain ⟨j, c1, c2, c3, _⟩ := hS.2 z q
    exact c3 i hi (fun e => hz z q (by rw [c1, e]))
theorem hsAll_ok {J : Jt} {ρ : List Int} {σ : zS} {H : List (Nat × Int)} : ∀ {PE : List Ep} {s : Sy}, (∀ e ∈ PE, eSp e H σ) → Ok J s ρ σ → Hl ρ s.hl H → Ok J (hsAll PE s) ρ σ ∧ (hsAll PE s).hl = s.hl
  | [], s, _, ho, _ => ⟨ho, rfl⟩
  | e :: r, s, hS, ho, hh => by
    unfold hsAll
    have hS0 := hS e (List.mem_cons_self ..)
    obtain ⟨a1, a2⟩ := hsA_ok (ka := e.2.1) (ba := e.2.2.1) (kb := e.2.2.2.1) (bb := e.2.2.2.2.1) (fun i hi hz => eS_at hS0 i hi hz) ho (fun e' q => ho.me e' q) hh
    obtain ⟨b1, b2⟩ := hsA_ok (ka := e.2.2.2.1) (ba := e.2.2.2.2.1) (kb := e.2.1) (bb := e.2.2.1) (fun i hi hz => (eS_at hS0 i hi hz).symm) a1 (fun e' q => a1.me e' q) (by rw [a2]; exact hh)
    obtain ⟨c1, c2⟩ := hsAll_ok (fun e' q => hS e' (List.mem_cons_of_mem _ q)) b1 (by rw [b2, a2]; exact hh)
    exact ⟨c1, by rw [c2, b2, a2]⟩
def hopL (t : Nat) (a : AV) : List Ep → Sy → Sy
  | [], s => s
  | e :: r, s => bif Nat.beq e.1 t then hop e.1 e.2.2.2.1 e.2.2.2.2.1 a s else hopL t a r s
theorem hopL_ok {J : Jt} {ρ : List Int} {σ : zS} {H : List (Nat × Int)} {t : Nat} {a : AV} {y : Int} (ha : ev ρ a = some y) : ∀ {PE : List Ep} {s : Sy}, (∀ e ∈ PE, eSp e H σ) → Ok J s ρ σ → Hl ρ s.hl H → Ok J (hopL t a PE s) ρ σ
  | [], s, _, ho, _ => ho
  | e :: r, s, hS, ho, hh => by
    unfold hopL
    cases Nat.beq e.1 t with
    | true => exact hop_ok (hS e (List.mem_cons_self ..)) ho hh ha
    | false => exact hopL_ok ha (fun e' q => hS e' (List.mem_cons_of_mem _ q)) ho hh
end
