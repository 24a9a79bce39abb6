noncomputable section
/-! ===== WHAT ELSE HOLDS, 18: frames: where they stand ===== -/
/-- a frame below the number of frames stands at 0, or at most at the number of its method's ops -/
def fS (kF jF kA kM kO : Nat) (σ : zS) : Prop := ∀ f m : Nat, (f : Int) < (σ.1 kF jF).toInt → (σ.1 kM f).toInt = (m : Int) → (σ.1 kA f).toInt ≤ 0 ∨ (σ.1 kA f).toInt ≤ (σ.1 kO m).toInt
def fw (kF jF kA kM kO : Nat) (s : Sy) (hl : List (Nat × AV)) (k : Nat) (p v : AV) : Option (List (Nat × AV)) :=
  bif Nat.beq k kO then (match mget s.me kO p with
    | some w => bif w.isI && leAV s w v then some hl else none
    | none => none)
  else bif Nat.beq k kF then (match p with
    | .inr (.inl (.ofNat j)) => bif Nat.beq j jF then (match mget s.me kF (.c (jF : Int)) with
      | some fr => bif fr.isI then (bif leAV s v fr then some hl else match mget s.me kA (pl s fr) with
        | some a => bif (a.isI && leAV s v (shA fr 1)) && (leAV s a (.c 0) && (leAV s fr (pl s fr) && leAV s (pl s fr) fr)) then some hl else none
        | none => none) else none
      | none => none) else some hl
    | _ => none)
  else match mget s.me kF (.c (jF : Int)) with
    | some fr => bif fr.isI && leAV s fr p then some hl
      else bif Nat.beq k kA then (match mget s.me kM p with
        | some m => match mget s.me kO (pl s m) with
          | some c => bif (m.isI && c.isI) && (leAV s v c && (leAV s m (pl s m) && leAV s (pl s m) m)) then some hl else none
          | none => none
        | none => none)
      else none
    | none => none
def cf (kF jF kA kM kO : Nat) : Cp := (fun _ => false, (fun _ σ => fS kF jF kA kM kO σ, (fun q => Nat.beq q kF || (Nat.beq q kA || (Nat.beq q kM || Nat.beq q kO)), (fw kF jF kA kM kO, nlw))))
section C18
variable {T : Jx} {G : Gl}
theorem cf_ok {kF jF kA kM kO : Nat} (d1 : kF ≠ kA) (d2 : kF ≠ kM) (d3 : kF ≠ kO) (d4 : kA ≠ kM) (d5 : kA ≠ kO) (d6 : kM ≠ kO) : CpOk T G (cf kF jF kA kM kO) := by
  apply CpOk.no (fun _ => rfl)
  have bb : ∀ k, Nat.beq k k = true := Nat.beq_refl
  refine ⟨fun u hu => (by cases hu), fun H H' σ σ' _ h2 hS f m => ?_, ?_⟩
  · have r1 : (cf kF jF kA kM kO).rw kF = true := by
      show (Nat.beq kF kF || (Nat.beq kF kA || (Nat.beq kF kM || Nat.beq kF kO))) = true
      rw [bb kF, Bool.true_or]
    have r2 : (cf kF jF kA kM kO).rw kA = true := by
      show (Nat.beq kA kF || (Nat.beq kA kA || (Nat.beq kA kM || Nat.beq kA kO))) = true
      rw [bb kA, Bool.true_or, Bool.or_true]
    have r3 : (cf kF jF kA kM kO).rw kM = true := by
      show (Nat.beq kM kF || (Nat.beq kM kA || (Nat.beq kM kM || Nat.beq kM kO))) = true
      rw [bb kM, Bool.true_or, Bool.or_true, Bool.or_true]
    have r4 : (cf kF jF kA kM kO).rw kO = true := by
      show (Nat.beq kO kF || (Nat.beq kO kA || (Nat.beq kO kM || Nat.beq kO kO))) = true
      rw [bb kO, Bool.or_true, Bool.or_true, Bool.or_true]
    rw [h2 kF r1, h2 kA r2, h2 kM r3, h2 kO r4]
    exact hS f m
  · intro s ρ σ k p v j x hl hl' H ho hb hp hi hv hx hr hw hh hS
    replace hS : fS kF jF kA kM kO σ := hS
    replace hw : fw kF jF kA kM kO s hl k p v = some hl' := hw
    unfold fw at hw
    suffices hg : hl' = hl ∧ fS kF jF kA kM kO (zI σ k j x) by
      rw [hg.1]
      exact ⟨H, hh, hg.2, fun _ _ => rfl⟩
    have fld : ∀ {w : AV}, mget s.me kF (.c (jF : Int)) = some w → w.isI = true → ev ρ w = some (σ.1 kF jF).toInt := fun hm hi => me_at ho hm rfl hi
    cases e1 : Nat.beq k kO with
    | true =>
      have ek := Nat.eq_of_beq_eq_true e1
      subst ek
      rw [e1] at hw
      simp only [cond_true] at hw
      split at hw
      · rename_i w hm
        cases hc : w.isI && leAV s w v with
        | false => rw [hc] at hw; cases hw
        | true =>
          rw [hc] at hw
          cases Option.some.inj hw
          rw [Bool.and_eq_true] at hc
          refine ⟨rfl, fun f m h1 h2 => ?_⟩
          rw [zI_row d3] at h1
          rw [zI_row d6] at h2
          rw [zI_row d5]
          have := hS f m h1 h2
          by_cases e : m = j
          · subst e
            rw [zI_at]
            have h3 := leAV_ok ho hc.2 (me_at ho hm hp hc.1) hx
            omega
          · rw [zI_ne (by rintro ⟨_, q⟩; exact e q)]
            exact this
      · cases hw
    | false =>
    rw [e1] at hw
    simp only [cond_false] at hw
    cases e2 : Nat.beq k kF with
    | true =>
      have ek := Nat.eq_of_beq_eq_true e2
      subst ek
      rw [e2] at hw
      simp only [cond_true] at hw
      split at hw
      · rename_i j0
        have ej : j0 = j := by
          have : ((j0 : Nat) : Int) = (j : Int) := Option.some.inj hp
          omega
        subst ej
        cases e3 : Nat.beq j0 jF with
        | false =>
          rw [e3] at hw
          cases Option.some.inj hw
          have hne : j0 ≠ jF := beq_ne e3
          refine ⟨rfl, fun f m h1 h2 => ?_⟩
          rw [zI_ne (by rintro ⟨_, q⟩; exact hne q.symm)] at h1
          rw [zI_row d2.symm] at h2
          rw [zI_row d1.symm, zI_row d3.symm]
          exact hS f m h1 h2
        | true =>
          have ejf := Nat.eq_of_beq_eq_true e3
          subst ejf
          rw [e3] at hw
          simp only [cond_true] at hw
          split at hw
          · rename_i fr hm
            cases hfi : fr.isI with
            | false => rw [hfi] at hw; cases hw
            | true =>
              rw [hfi] at hw
              simp only [cond_true] at hw
              have hfr := fld hm hfi
              cases h4 : leAV s v fr with
              | true =>
                rw [h4] at hw
                cases Option.some.inj hw
                refine ⟨rfl, fun f m h1 h2 => ?_⟩
                rw [zI_at] at h1
                rw [zI_row d2.symm] at h2
                rw [zI_row d1.symm, zI_row d3.symm]
                have := leAV_ok ho h4 hx hfr
                exact hS f m (by omega) h2
              | false =>
                rw [h4] at hw
                simp only [cond_false] at hw
                split at hw
                · rename_i a ha
                  cases hc : (a.isI && leAV s v (shA fr 1)) && (leAV s a (.c 0) && (leAV s fr (pl s fr) && leAV s (pl s fr) fr)) with
                  | false => rw [hc] at hw; cases hw
                  | true =>
                    rw [hc] at hw
                    cases Option.some.inj hw
                    simp only [Bool.and_eq_true] at hc
                    obtain ⟨⟨c1, c2⟩, c3, c4, c5⟩ := hc
                    refine ⟨rfl, fun f m h1 h2 => ?_⟩
                    rw [zI_at] at h1
                    rw [zI_row d2.symm] at h2
                    rw [zI_row d1.symm, zI_row d3.symm]
                    have g1 := leAV_ok ho c2 hx (shA_ev hfr)
                    by_cases e : (f : Int) < (σ.1 k j0).toInt
                    · exact hS f m e h2
                    · obtain ⟨j', q1, q2⟩ := ho.me _ (mget_mem ha)
                      have g2 := leAV_ok ho c4 hfr q1
                      have g3 := leAV_ok ho c5 q1 hfr
                      have ef : j' = f := by omega
                      subst ef
                      have g4 := leAV_ok ho c3 (me_at ho ha q1 c1) (y := 0) rfl
                      exact Or.inl g4
                · cases hw
          · cases hw
      · cases hw
    | false =>
    rw [e2] at hw
    simp only [cond_false] at hw
    have hkF : k ≠ kF := beq_ne e2
    have hkO : k ≠ kO := beq_ne e1
    split at hw
    · rename_i fr hm
      cases hc : fr.isI && leAV s fr p with
      | true =>
        rw [hc] at hw
        cases Option.some.inj hw
        rw [Bool.and_eq_true] at hc
        have hfr := fld hm hc.1
        have hge := leAV_ok ho hc.2 hfr hp
        refine ⟨rfl, fun f m h1 h2 => ?_⟩
        rw [zI_row hkF.symm] at h1
        have hfj : ∀ k', ¬ (k' = k ∧ f = j) := fun k' q => by have := q.2; omega
        rw [zI_ne (hfj kM)] at h2
        rw [zI_ne (hfj kA), zI_row hkO.symm]
        exact hS f m h1 h2
      | false =>
        rw [hc] at hw
        simp only [cond_false] at hw
        cases e3 : Nat.beq k kA with
        | false => rw [e3] at hw; cases hw
        | true =>
          have ek := Nat.eq_of_beq_eq_true e3
          subst ek
          rw [e3] at hw
          simp only [cond_true] at hw
          split at hw
          · rename_i mv hmv
            split at hw
            · rename_i c hcv
              cases hd : (mv.isI && c.isI) && (leAV s v c && (leAV s mv (pl s mv) && leAV s (pl s mv) mv)) with
              | false => rw [hd] at hw; cases hw
              | true =>
                rw [hd] at hw
                cases Option.some.inj hw
                simp only [Bool.and_eq_true] at hd
                obtain ⟨⟨c1, c2⟩, c3, c4, c5⟩ := hd
                refine ⟨rfl, fun f m h1 h2 => ?_⟩
                rw [zI_row d1] at h1
                rw [zI_row d4.symm] at h2
                rw [zI_row d5.symm]
                by_cases e : f = j
                · subst e
                  rw [zI_at]
                  have g1 := me_at ho hmv hp c1
                  obtain ⟨j', q1, q2⟩ := ho.me _ (mget_mem hcv)
                  have g2 := leAV_ok ho c4 g1 q1
                  have g3 := leAV_ok ho c5 q1 g1
                  have em : j' = m := by omega
                  subst em
                  exact Or.inr (leAV_ok ho c3 hx (me_at ho hcv q1 c2))
                · rw [zI_ne (by rintro ⟨_, q⟩; exact e q)]
                  exact hS f m h1 h2
            · cases hw
          · cases hw
    · cases hw
end C18
/-- hint 18: where frames stand -/
def hf18 (kF jF kA kM kO : Nat) : List (Nat × (AV × AV)) → Sy → Sy
  | [], s => s
  | e :: r, s => hf18 kF jF kA kM kO r (bif Nat.beq e.1 kA && e.2.2.isI then (match mget s.me kF (.c (jF : Int)), mget s.me kM e.2.1 with
    | some fr, some m => match mget s.me kO (pl s m) with
      | some c => bif ((fr.isI && m.isI) && (c.isI && leAV s (shA e.2.1 1) fr)) && ((leAV s (.c 0) c) && (leAV s m (pl s m) && leAV s (pl s m) m)) then s.below e.2.2 c else s
      | none => s
    | _, _ => s) else s)
theorem hf18_ok {J : Jt} {ρ : List Int} {σ : zS} {kF jF kA kM kO : Nat} (hS : fS kF jF kA kM kO σ) : ∀ {es : List (Nat × (AV × AV))} {s : Sy}, Ok J s ρ σ → (∀ e ∈ es, Mf ρ σ e) → Ok J (hf18 kF jF kA kM kO es s) ρ σ
  | [], s, ho, _ => ho
  | e :: r, s, ho, hes => by
    unfold hf18
    have rest := fun e' he' => hes e' (List.mem_cons_of_mem e he')
    refine hf18_ok hS ?_ rest
    cases hb : Nat.beq e.1 kA && e.2.2.isI with
    | false => exact ho
    | true =>
      simp only [cond_true]
      rw [Bool.and_eq_true] at hb
      have hk := Nat.eq_of_beq_eq_true hb.1
      split
      · rename_i fr m hfr hm
        split
        · rename_i c hcv
          cases hd : ((fr.isI && m.isI) && (c.isI && leAV s (shA e.2.1 1) fr)) && ((leAV s (.c 0) c) && (leAV s m (pl s m) && leAV s (pl s m) m)) with
          | false => exact ho
          | true =>
            simp only [Bool.and_eq_true] at hd
            obtain ⟨⟨⟨c1, c2⟩, c3, c4⟩, c5, c6, c7⟩ := hd
            obtain ⟨j, f1, f2⟩ := hes e (List.mem_cons_self ..)
            have f3 : ev ρ e.2.2 = some (σ.1 kA j).toInt := by
              rw [← hk]
              rcases f2 with ⟨_, f2⟩ | ⟨q, _⟩
              · exact f2
              · exact (isI_L hb.2 q).elim
            have g1 := me_at ho hm f1 c2
            have g0 := me_at ho hfr (j := jF) rfl c1
            obtain ⟨j', q1, q2⟩ := ho.me _ (mget_mem hcv)
            have g2 := leAV_ok ho c6 g1 q1
            have g3 := leAV_ok ho c7 q1 g1
            have g4 := leAV_ok ho c4 (shA_ev f1) g0
            have g5 := me_at ho hcv q1 c3
            have g6 := leAV_ok ho c5 (x := 0) rfl g5
            have g7 := hS j j' (by omega) (by omega)
            exact below_ok ho f3 g5 (by omega)
        · exact ho
      · exact ho
end
