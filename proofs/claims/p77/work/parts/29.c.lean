noncomputable section
/-! ===== WHAT ELSE HOLDS, 19: no more is gained than there are keys ===== -/
def P4 : List Int := [0, 1, 1, 2, 1, 2, 2, 3, 1, 2, 2, 3, 2, 3, 3, 4]
def p4 (x : Int) : Int := P4.getD x.toNat 0
theorem P4_all : ∀ n : Nat, n < 16 → 0 ≤ P4.getD n 0 ∧ P4.getD n 0 ≤ 4 := by decide
theorem p4_in (x : Int) : 0 ≤ p4 x ∧ p4 x ≤ 4 := by
  unfold p4
  by_cases h : x.toNat < 16
  · exact P4_all _ h
  · rw [List.getD_eq_getElem?_getD, List.getElem?_eq_none (by show 16 ≤ _; omega)]
    exact ⟨Int.le_refl 0, by decide⟩
def gsum (σ : zS) (k : Nat) : Nat → Int
  | 0 => 0
  | n + 1 => gsum σ k n + p4 (σ.1 k n).toInt
theorem gsum_in {σ : zS} {k : Nat} : ∀ n : Nat, 0 ≤ gsum σ k n ∧ gsum σ k n ≤ 4 * (n : Int)
  | 0 => ⟨Int.le_refl 0, Int.le_refl 0⟩
  | n + 1 => by
    have := gsum_in (σ := σ) (k := k) n
    have := p4_in (σ.1 k n).toInt
    unfold gsum
    omega
theorem gsum_row {σ σ' : zS} {k : Nat} (h : σ'.1 k = σ.1 k) : ∀ n : Nat, gsum σ' k n = gsum σ k n
  | 0 => rfl
  | n + 1 => by
    unfold gsum
    rw [gsum_row h n, h]
theorem gsum_wr {σ : zS} {k j : Nat} {x : Int32} : ∀ n : Nat, gsum (zI σ k j x) k n = gsum σ k n + (if j < n then p4 x.toInt - p4 (σ.1 k j).toInt else 0)
  | 0 => by simp [gsum]
  | n + 1 => by
    have ih := gsum_wr (σ := σ) (k := k) (j := j) (x := x) n
    unfold gsum
    rw [ih]
    by_cases e : n = j
    · subst e
      rw [zI_at, if_neg (Nat.lt_irrefl n), if_pos (Nat.lt_succ_self n)]
      omega
    · rw [zI_ne (by rintro ⟨_, q⟩; exact e q)]
      by_cases h : j < n
      · rw [if_pos h, if_pos (show j < n + 1 by omega)]
        omega
      · rw [if_neg h, if_neg (show ¬ j < n + 1 by omega)]
        omega
def slack (H : List (Nat × Int)) : Int := match lk H 330 with
  | some d => d
  | none => 0
/-- tag 331: nothing is said; tag 330: so much less is gained -/
def gS (kF jG kH n : Nat) (H : List (Nat × Int)) (σ : zS) : Prop := lk H 331 = none → (σ.1 kF jG).toInt + slack H ≤ gsum σ kH n
def gw (kF jG kH : Nat) (s : Sy) (hl : List (Nat × AV)) (k : Nat) (p v : AV) : Option (List (Nat × AV)) :=
  bif Nat.beq k kH then (match lk hl 331 with
    | some _ => some hl
    | none => match mget s.me kH p with
      | some w => bif w.isI then (match pl s w, pl s v with
        | .inr (.inl o), .inr (.inl x) => bif ile (p4 o + 1) (p4 x) && !(isS (lk hl 330)) then some ((330, .c 1) :: hl) else bif ile (p4 o) (p4 x) then some hl else none
        | _, _ => none) else none
      | none => none)
  else match p with
    | .inr (.inl (.ofNat j)) => bif Nat.beq j jG then (bif leAV s v (.c 0) then some (hdel 331 (hdel 330 hl)) else match lk hl 331, mget s.me kF (.c (jG : Int)) with
      | none, some g => bif g.isI then (match lk hl 330 with
        | some a => bif AV.eq a (.c 1) && leAV s v (shA g 1) then some (hdel 330 hl) else none
        | none => bif leAV s v g then some hl else none) else none
      | _, _ => none) else some hl
    | _ => none
def cg9 (kF jG kH n : Nat) : Cp := (fun u => Nat.beq u 330 || Nat.beq u 331, (gS kF jG kH n, (fun q => Nat.beq q kF || Nat.beq q kH, (gw kF jG kH, nlw))))
section C19
variable {T : Jx} {G : Gl}
theorem lk_cons {α : Type} {t u : Nat} {a : α} {l : List (Nat × α)} : lk ((t, a) :: l) u = if u = t then some a else lk l u := by
  rw [lkq_cons]; show (bif Nat.beq t u then some a else lk l u) = _
  cases hb : Nat.beq t u with
  | true => rw [if_pos (Nat.eq_of_beq_eq_true hb).symm]; rfl
  | false => rw [if_neg (fun e => by rw [e, Nat.beq_refl] at hb; cases hb)]; rfl
theorem cg9_ok {kF jG kH n : Nat} (d1 : kF ≠ kH) (hk : ∀ j, InB G kH j → j < n) : CpOk T G (cg9 kF jG kH n) := by
  apply CpOk.no (fun _ => rfl)
  have bb : ∀ k, Nat.beq k k = true := Nat.beq_refl
  refine ⟨fun u hu => ?_, fun H H' σ σ' h1 h2 hS h331 => ?_, ?_⟩
  · have hu : (Nat.beq u 330 || Nat.beq u 331) = true := hu
    rw [Bool.or_eq_true] at hu
    rcases hu with hu | hu <;> rw [Nat.eq_of_beq_eq_true hu] <;> decide
  · have e1 := h1 331 rfl
    have e0 := h1 330 rfl
    have e2 : slack H' = slack H := by unfold slack; rw [e0]
    have r1 : (cg9 kF jG kH n).rw kF = true := by
      show (Nat.beq kF kF || Nat.beq kF kH) = true
      rw [bb kF, Bool.true_or]
    have r2 : (cg9 kF jG kH n).rw kH = true := by
      show (Nat.beq kH kF || Nat.beq kH kH) = true
      rw [bb kH, Bool.or_true]
    rw [h2 kF r1, gsum_row (h2 kH r2), e2]
    exact hS (by rw [← e1]; exact h331)
  · intro s ρ σ k p v j x hl hl' H ho hb hp hi hv hx hr hw hh hS
    replace hS : gS kF jG kH n H σ := hS
    replace hw : gw kF jG kH s hl k p v = some hl' := hw
    unfold gw at hw
    have off : ∀ {t : Nat}, (Nat.beq t 330 || Nat.beq t 331) = false → t ≠ 330 ∧ t ≠ 331 := fun h => by
      rw [Bool.or_eq_false_iff] at h
      exact ⟨beq_ne h.1, beq_ne h.2⟩
    cases e1 : Nat.beq k kH with
    | true =>
      have ek := Nat.eq_of_beq_eq_true e1
      subst ek
      rw [e1] at hw
      simp only [cond_true] at hw
      have hj := hk j hi
      rcases hh.lkp (t := 331) with ⟨q1, q2⟩ | ⟨a, z, q1, q2, q3⟩
      · rw [q1] at hw
        dsimp only at hw
        have hS := hS q2
        split at hw
        · rename_i w hm
          cases hwi : w.isI with
          | false => rw [hwi] at hw; cases hw
          | true =>
            rw [hwi] at hw
            simp only [cond_true] at hw
            have ew := me_at ho hm hp hwi
            have pw := pl_ok ho hwi ew
            have pv := pl_ok ho hv hx
            split at hw
            · rename_i o y ho1 hv1
              rw [ho1] at pw
              rw [hv1] at pv
              have eo : o = (σ.1 k j).toInt := Option.some.inj pw
              have ey : y = x.toInt := Option.some.inj pv
              cases hc : ile (p4 o + 1) (p4 y) && !(isS (lk hl 330)) with
              | true =>
                rw [hc] at hw
                cases Option.some.inj hw
                rw [Bool.and_eq_true, ile_iff] at hc
                have hn : lk H 330 = none := by
                  rcases hh.lkp (t := 330) with ⟨_, r2⟩ | ⟨a, z, r1, _, _⟩
                  · exact r2
                  · rw [r1] at hc; cases hc.2
                have hsl : slack H = 0 := by unfold slack; rw [hn]
                refine ⟨(330, 1) :: H, ⟨⟨rfl, rfl⟩, hh⟩, fun h331 => ?_, fun t ht => by rw [lk_cons, if_neg (off ht).1]⟩
                have hs1 : slack ((330, 1) :: H) = 1 := by
                  unfold slack
                  rw [lk_cons, if_pos rfl]
                rw [zI_row d1, gsum_wr, if_pos hj, hs1]
                rw [hsl] at hS
                rw [eo, ey] at hc
                omega
              | false =>
                rw [hc] at hw
                simp only [cond_false] at hw
                cases hd : ile (p4 o) (p4 y) with
                | false => rw [hd] at hw; cases hw
                | true =>
                  rw [hd] at hw
                  cases Option.some.inj hw
                  have hd := ile_iff.mp hd
                  refine ⟨H, hh, fun h331 => ?_, fun _ _ => rfl⟩
                  rw [zI_row d1, gsum_wr, if_pos hj]
                  rw [eo, ey] at hd
                  omega
            · cases hw
        · cases hw
      · rw [q1] at hw
        cases Option.some.inj hw
        exact ⟨H, hh, fun h331 => (by rw [q2] at h331; cases h331), fun _ _ => rfl⟩
    | false =>
      rw [e1] at hw
      simp only [cond_false] at hw
      have ekF : k = kF := by
        have hr : (Nat.beq k kF || Nat.beq k kH) = true := hr
        rw [e1, Bool.or_false] at hr
        exact Nat.eq_of_beq_eq_true hr
      subst ekF
      split at hw
      · rename_i j0
        have ej : j0 = j := by
          have : ((j0 : Nat) : Int) = (j : Int) := Option.some.inj hp
          omega
        subst ej
        cases e3 : Nat.beq j0 jG with
        | false =>
          rw [e3] at hw
          cases Option.some.inj hw
          have hne : j0 ≠ jG := beq_ne e3
          refine ⟨H, hh, fun h331 => ?_, fun _ _ => rfl⟩
          rw [zI_ne (by rintro ⟨_, q⟩; exact hne q.symm), gsum_row (zI_row d1.symm)]
          exact hS h331
        | true =>
          have ejf := Nat.eq_of_beq_eq_true e3
          subst ejf
          rw [e3] at hw
          simp only [cond_true] at hw
          cases h0 : leAV s v (.c 0) with
          | true =>
            rw [h0] at hw
            cases Option.some.inj hw
            have g0 := leAV_ok ho h0 hx (y := 0) rfl
            refine ⟨hdel 331 (hdel 330 H), hh.del.del, fun _ => ?_, fun t ht => by rw [lk_hdel, if_neg (off ht).2, lk_hdel, if_neg (off ht).1]⟩
            have hs0 : slack (hdel 331 (hdel 330 H)) = 0 := by
              unfold slack
              rw [lk_hdel, if_neg (by decide), lk_hdel, if_pos rfl]
            rw [zI_at, gsum_row (zI_row d1.symm), hs0]
            have := (gsum_in (σ := σ) (k := kH) n).1
            omega
          | false =>
            rw [h0] at hw
            simp only [cond_false] at hw
            split at hw
            · rename_i g r1 hg
              cases hgi : g.isI with
              | false => rw [hgi] at hw; cases hw
              | true =>
                rw [hgi] at hw
                simp only [cond_true] at hw
                have eg := me_at ho hg (j := j0) rfl hgi
                have q2 : lk H 331 = none := by
                  rcases hh.lkp (t := 331) with ⟨_, q2⟩ | ⟨a, z, q1, _, _⟩
                  · exact q2
                  · rw [r1] at q1; cases q1
                have hS := hS q2
                rcases hh.lkp (t := 330) with ⟨u1, u2⟩ | ⟨a, z, u1, u2, u3⟩
                · rw [u1] at hw
                  dsimp only at hw
                  cases hc : leAV s v g with
                  | false => rw [hc] at hw; cases hw
                  | true =>
                    rw [hc] at hw
                    cases Option.some.inj hw
                    have := leAV_ok ho hc hx eg
                    refine ⟨H, hh, fun _ => ?_, fun _ _ => rfl⟩
                    rw [zI_at, gsum_row (zI_row d1.symm)]
                    omega
                · rw [u1] at hw
                  dsimp only at hw
                  cases hc : AV.eq a (.c 1) && leAV s v (shA g 1) with
                  | false => rw [hc] at hw; cases hw
                  | true =>
                    rw [hc] at hw
                    cases Option.some.inj hw
                    rw [Bool.and_eq_true] at hc
                    have ea := AV.eq_of hc.1
                    subst ea
                    have ez : z = 1 := (Option.some.inj u3).symm
                    have hsl : slack H = 1 := by unfold slack; rw [u2, ez]
                    have := leAV_ok ho hc.2 hx (shA_ev eg)
                    refine ⟨hdel 330 H, hh.del, fun _ => ?_, fun t ht => by rw [lk_hdel, if_neg (off ht).1]⟩
                    have hs0 : slack (hdel 330 H) = 0 := by
                      unfold slack
                      rw [lk_hdel, if_pos rfl]
                    rw [zI_at, gsum_row (zI_row d1.symm), hs0]
                    omega
            · cases hw
      · cases hw
end C19
/-- hints: 20: nothing is said from here on; 21: how much is gained -/
def hg20 (s : Sy) : Sy := match lk s.hl 331 with
  | some _ => s
  | none => s.seth ((331, .c 0) :: s.hl)
def hg21 (kF jG : Nat) (n : Nat) (s : Sy) : Sy := match lk s.hl 331, lk s.hl 330, mget s.me kF (.c (jG : Int)) with
  | none, none, some g => bif g.isI then s.below g (.c (4 * (n : Int))) else s
  | _, _, _ => s
section H19
variable {T : Jx} {G : Gl} {cs : List Cp} {s : Sy} {ρ : List Int} {σ : zS}
theorem hg20_ok {kF jG kH n : Nat} (hwf : T.wf = true) (hc : ∀ c ∈ cs, CpOk T G c) (hu : ∀ c ∈ cs, c.tg 331 = true → c = cg9 kF jG kH n) (ho : Ok (Jf T G (cS cs)) s ρ σ) : Ok (Jf T G (cS cs)) (hg20 s) ρ σ := by
  obtain ⟨H, i1, i2⟩ := ho.inv
  unfold hg20
  split
  · exact ho
  · refine ⟨ho.len, ho.env, ho.me, ho.cg, ho.df, ho.fa, (331, 0) :: H, ⟨⟨rfl, rfl⟩, i1⟩, Jf_tag hwf hc (by decide) (H := H) (t := 331) (fun u hu2 => by rw [lk_cons, if_neg hu2]) i2 (fun c q e => ?_)⟩
    rw [hu c q e]
    intro h331
    rw [lk_cons, if_pos rfl] at h331
    cases h331
theorem hg21_ok {kF jG kH n : Nat} (hm : cg9 kF jG kH n ∈ cs) (ho : Ok (Jf T G (cS cs)) s ρ σ) : Ok (Jf T G (cS cs)) (hg21 kF jG n s) ρ σ := by
  obtain ⟨H, i1, i2⟩ := ho.inv
  unfold hg21
  split
  · rename_i g h1 h2 hg
    cases hgi : g.isI with
    | false => exact ho
    | true =>
      have q1 : lk H 331 = none := by
        rcases i1.lkp (t := 331) with ⟨_, q⟩ | ⟨a, z, q, _, _⟩
        · exact q
        · rw [h1] at q; cases q
      have q2 : lk H 330 = none := by
        rcases i1.lkp (t := 330) with ⟨_, q⟩ | ⟨a, z, q, _, _⟩
        · exact q
        · rw [h2] at q; cases q
      have hS : (σ.1 kF jG).toInt + slack H ≤ gsum σ kH n := i2.2.2 _ hm q1
      have hs0 : slack H = 0 := by unfold slack; rw [q2]
      have := (gsum_in (σ := σ) (k := kH) n).2
      exact below_ok ho (me_at ho hg (j := jG) rfl hgi) (v := .c (4 * (n : Int))) (y := 4 * (n : Int)) rfl (by omega)
  · exact ho
end H19
end
