noncomputable section
/-! ===== WHAT ELSE HOLDS, 16: zeros of a row; places that a row holds ===== -/
/-- how many of the first n of row k are 0 -/
def zer (σ : zS) (k : Nat) : Nat → Int
  | 0 => 0
  | n + 1 => zer σ k n + (if (σ.1 k n).toInt = 0 then 1 else 0)
theorem zer_in {σ : zS} {k : Nat} : ∀ n : Nat, 0 ≤ zer σ k n ∧ zer σ k n ≤ (n : Int)
  | 0 => ⟨Int.le_refl 0, Int.le_refl 0⟩
  | n + 1 => by
    have := zer_in (σ := σ) (k := k) n
    unfold zer
    split <;> omega
theorem zer_row {σ σ' : zS} {k : Nat} (h : σ'.1 k = σ.1 k) : ∀ n : Nat, zer σ' k n = zer σ k n
  | 0 => rfl
  | n + 1 => by
    unfold zer
    rw [zer_row h n, h]
theorem zer_wr {σ : zS} {k j : Nat} {x : Int32} : ∀ n : Nat, zer (zI σ k j x) k n = zer σ k n + (if j < n then (if x.toInt = 0 then 1 else 0) - (if (σ.1 k j).toInt = 0 then 1 else 0) else 0)
  | 0 => by simp [zer]
  | n + 1 => by
    have ih := zer_wr (σ := σ) (k := k) (j := j) (x := x) n
    unfold zer
    rw [ih]
    by_cases e : n = j
    · subst e
      rw [zI_at, if_neg (Nat.lt_irrefl n), if_pos (Nat.lt_succ_self n)]
      omega
    · rw [zI_ne (by rintro ⟨_, q⟩; exact e q)]
      by_cases h : j < n
      · rw [if_pos h, if_pos (show j < n + 1 by omega)]
        omega
      · rw [if_neg h, if_neg (show ¬ j < n + 1 by omega)]
        omega
def zw (t : Nat) (s : Sy) (hl : List (Nat × AV)) (k : Nat) (p v : AV) : Option (List (Nat × AV)) := match lk hl t with
  | none => some hl
  | some a => match mget s.me k p with
    | some w => bif w.isI && dsub (dom s v) [(1, 1)] then (bif dsub (dom s w) [(0, 0)] then some (hset t (shA a (-1)) hl) else bif dsub (dom s w) [(1, 1)] then some hl else none) else none
    | none => none
/-- tag t: how many of row k's n are 0 -/
def cz (t k n : Nat) : Cp := (fun u => Nat.beq u t, (fun H σ => ∀ z, lk H t = some z → z = zer σ k n, (fun q => Nat.beq q k, (zw t, nlw))))
section C16
variable {T : Jx} {G : Gl}
theorem beq_ne {u t : Nat} (h : Nat.beq u t = false) : u ≠ t := fun e => by rw [e, Nat.beq_refl] at h; cases h
theorem me_at {s : Sy} {ρ : List Int} {σ : zS} {J : Jt} {k j : Nat} {p w : AV} (ho : Ok J s ρ σ) (hm : mget s.me k p = some w) (hp : ev ρ p = some (j : Int)) (hw : w.isI = true) : ev ρ w = some (σ.1 k j).toInt := by
  obtain ⟨j', e1, e2⟩ := ho.me _ (mget_mem hm)
  have ej : j' = j := by
    have := Option.some.inj (e1.symm.trans hp)
    omega
  subst ej
  rcases e2 with ⟨_, e2⟩ | ⟨q, _⟩
  · exact e2
  · exact (isI_L hw q).elim
theorem cz_ok {t k n : Nat} (ht : 100 ≤ t) (hk : ∀ j, InB G k j → j < n) : CpOk T G (cz t k n) := by
  apply CpOk.no (fun _ => rfl)
  refine ⟨fun u hu => by rw [Nat.eq_of_beq_eq_true hu]; exact ht, fun H H' σ σ' h1 h2 hS z hz => ?_, ?_⟩
  · rw [zer_row (h2 k (Nat.beq_refl k))]
    exact hS z (by rw [← h1 t (Nat.beq_refl t)]; exact hz)
  · intro s ρ σ k' p v j x hl hl' H ho hb hp hi hv hx hr hw hh hS
    have hk' : k' = k := Nat.eq_of_beq_eq_true hr
    subst hk'
    have hw' : zw t s hl k' p v = some hl' := hw
    unfold zw at hw'
    rcases hh.lkp (t := t) with ⟨q1, q2⟩ | ⟨a, z, q1, q2, q3⟩
    · rw [q1] at hw'
      cases Option.some.inj hw'
      exact ⟨H, hh, fun z hz => (by rw [q2] at hz; cases hz), fun _ _ => rfl⟩
    · rw [q1] at hw'
      dsimp only at hw'
      split at hw'
      · rename_i w hm
        have hz := hS z q2
        cases hc : w.isI && dsub (dom s v) [(1, 1)] with
        | false => rw [hc] at hw'; cases hw'
        | true =>
          rw [hc] at hw'
          rw [Bool.and_eq_true] at hc
          have e2 := me_at ho hm hp hc.1
          have hv1 := inD_one (dsub_in hc.2 (dom_i ho hv hx))
          have hj := hk j hi
          simp only [cond_true] at hw'
          cases h0 : dsub (dom s w) [(0, 0)] with
          | true =>
            rw [h0] at hw'
            cases Option.some.inj hw'
            have ho0 := inD_one (dsub_in h0 (dom_i ho hc.1 e2))
            refine ⟨hset t (z - 1) H, hh.set (by rw [shA_ev q3]; exact congrArg some (by omega)), ?_, fun u hu => by rw [lk_hset, if_neg (beq_ne hu)]⟩
            intro z' hz'
            rw [lk_hset, if_pos rfl] at hz'
            have := Option.some.inj hz'
            rw [zer_wr, if_pos hj, if_neg (by omega), if_pos (by omega)]
            omega
          | false =>
            rw [h0] at hw'
            simp only [cond_false] at hw'
            cases h1 : dsub (dom s w) [(1, 1)] with
            | false => rw [h1] at hw'; cases hw'
            | true =>
              rw [h1] at hw'
              cases Option.some.inj hw'
              have ho1 := inD_one (dsub_in h1 (dom_i ho hc.1 e2))
              refine ⟨H, hh, fun z' hz' => ?_, fun _ _ => rfl⟩
              rw [q2] at hz'
              have := Option.some.inj hz'
              rw [zer_wr, if_pos hj, if_neg (by omega), if_neg (by omega)]
              omega
      · cases hw'
/-- a is at most b -/
def leAV (s : Sy) (a b : AV) : Bool := leq s (tlin (-1) (nf s b).1 (nf s a).1) ((nf s b).2 - (nf s a).2)
theorem leAV_ok {s : Sy} {ρ : List Int} {σ : zS} {J : Jt} {a b : AV} {x y : Int} (ho : Ok J s ρ σ) (h : leAV s a b = true) (ha : ev ρ a = some x) (hb : ev ρ b = some y) : x ≤ y := by
  obtain ⟨u, a1, a2⟩ := nf_ok ho ha
  obtain ⟨w, b1, b2⟩ := nf_ok ho hb
  have := leq_ok ho h (tlin_ok (w := -1) b1 a1)
  omega
def lw (t : Nat) (s : Sy) (hl : List (Nat × AV)) (_ : Nat) (p v : AV) : Option (List (Nat × AV)) := match lk hl t with
  | none => some hl
  | some a => bif leAV s a p || leAV s p v then some hl else none
/-- tag t: the row k holds below it, at each place, no less than the place -/
def cl (t k : Nat) : Cp := (fun u => Nat.beq u t, (fun H σ => ∀ d, lk H t = some d → ∀ j : Nat, (j : Int) < d → (j : Int) ≤ (σ.1 k j).toInt, (fun q => Nat.beq q k, (lw t, nlw))))
theorem cl_ok {t k : Nat} (ht : 100 ≤ t) : CpOk T G (cl t k) := by
  apply CpOk.no (fun _ => rfl)
  refine ⟨fun u hu => by rw [Nat.eq_of_beq_eq_true hu]; exact ht, fun H H' σ σ' h1 h2 hS d hd j hj => ?_, ?_⟩
  · rw [h2 k (Nat.beq_refl k)]
    exact hS d (by rw [← h1 t (Nat.beq_refl t)]; exact hd) j hj
  · intro s ρ σ k' p v j x hl hl' H ho hb hp hi hv hx hr hw hh hS
    have hk' : k' = k := Nat.eq_of_beq_eq_true hr
    subst hk'
    have hw' : lw t s hl k' p v = some hl' := hw
    unfold lw at hw'
    rcases hh.lkp (t := t) with ⟨q1, q2⟩ | ⟨a, z, q1, q2, q3⟩
    · rw [q1] at hw'
      cases Option.some.inj hw'
      exact ⟨H, hh, fun z hz => (by rw [q2] at hz; cases hz), fun _ _ => rfl⟩
    · rw [q1] at hw'
      dsimp only at hw'
      cases hc : leAV s a p || leAV s p v with
      | false => rw [hc] at hw'; cases hw'
      | true =>
        rw [hc] at hw'
        cases Option.some.inj hw'
        refine ⟨H, hh, fun d hd i hi' => ?_, fun _ _ => rfl⟩
        have hS' := hS d hd i hi'
        rw [q2] at hd
        have hdz := Option.some.inj hd
        by_cases e : i = j
        · subst e
          rw [zI_at]
          rw [Bool.or_eq_true] at hc
          rcases hc with hc | hc
          · have := leAV_ok ho hc q3 hp
            omega
          · exact leAV_ok ho hc hp hx
        · rw [zI_ne (by rintro ⟨_, q⟩; exact e q)]
          exact hS'
end C16
/-! ===== hints of these parts ===== -/
def hz10 (t n : Nat) (s : Sy) : Sy := match lk s.hl t with
  | some _ => s
  | none => (s.new [(0, (n : Int))]).seth ((t, .i s.nx 0) :: s.hl)
def h11 (t : Nat) (s : Sy) : Sy := s.seth (hdel t s.hl)
def hl12 (t k : Nat) (s : Sy) : Sy := match lk s.hl t with
  | some a => match mget s.me k a with
    | some w => bif w.isI && leAV s a w then s.seth (hset t (shA a 1) s.hl) else s
    | none => s
  | none => s
def hl13 (t : Nat) (s : Sy) : Sy := match lk s.hl t with
  | some a => s.seth (hset t (shA a (-1)) s.hl)
  | none => s
def hl14 (t : Nat) (s : Sy) : Sy := match lk s.hl t with
  | some _ => s
  | none => s.seth ((t, .c 0) :: s.hl)
def hl15 (k : Nat) (a : AV) : List (Nat × (AV × AV)) → Sy → Sy
  | [], s => s
  | e :: r, s => hl15 k a r (bif Nat.beq e.1 k && (e.2.2.isI && leAV s (shA e.2.1 1) a) then s.below e.2.1 e.2.2 else s)
section H16
variable {T : Jx} {G : Gl} {cs : List Cp} {s : Sy} {ρ : List Int} {σ : zS}
theorem hz10_ok (hwf : T.wf = true) (hc : ∀ c ∈ cs, CpOk T G c) {t k n : Nat} (ht : 100 ≤ t) (hu : ∀ c ∈ cs, c.tg t = true → c = cz t k n) (ho : Ok (Jf T G (cS cs)) s ρ σ) : ∃ ρ', Pre ρ ρ' ∧ Ok (Jf T G (cS cs)) (hz10 t n s) ρ' σ := by
  obtain ⟨H, i1, i2⟩ := ho.inv
  unfold hz10
  split
  · exact ⟨ρ, Pre.rf, ho⟩
  · rename_i hn
    have hz := zer_in (σ := σ) (k := k) n
    have hq := ho.new (x := zer σ k n) (d := [(0, (n : Int))]) ⟨_, List.mem_cons_self .., hz.1, hz.2⟩
    refine ⟨ρ ++ [zer σ k n], ⟨_, rfl⟩, hq.len, hq.env, hq.me, hq.cg, hq.df, hq.fa, (t, zer σ k n) :: H, ⟨⟨rfl, ho.new_i⟩, i1.mono ⟨_, rfl⟩⟩, ?_⟩
    refine Jf_tag hwf hc ht (H := H) (fun u hu2 => ?_) i2 (fun c q e => ?_)
    · rw [lkq_cons]; show (bif Nat.beq t u then _ else lk H u) = _
      cases hb : Nat.beq t u with
      | false => rfl
      | true => exact absurd (Nat.eq_of_beq_eq_true hb).symm hu2
    · rw [hu c q e]
      intro z hz2
      have e3 : lk ((t, zer σ k n) :: H) t = some (zer σ k n) := by
        rw [lkq_cons]; show (bif Nat.beq t t then some (zer σ k n) else _) = _
        rw [Nat.beq_refl]
        rfl
      exact (Option.some.inj (e3.symm.trans hz2)).symm
theorem h11_ok (hwf : T.wf = true) (hc : ∀ c ∈ cs, CpOk T G c) {t : Nat} (ht : 100 ≤ t) (hn : ∀ c ∈ cs, c.tg t = true → ∀ H σ, c.S H σ → c.S (hdel t H) σ) (ho : Ok (Jf T G (cS cs)) s ρ σ) : Ok (Jf T G (cS cs)) (h11 t s) ρ σ := by
  obtain ⟨H, i1, i2⟩ := ho.inv
  exact ⟨ho.len, ho.env, ho.me, ho.cg, ho.df, ho.fa, hdel t H, i1.del, Jf_tag hwf hc ht (fun u hu => by rw [lk_hdel, if_neg hu]) i2 (fun c q e => hn c q e H σ (i2.2.2 c q))⟩
theorem hl12_ok (hwf : T.wf = true) (hc : ∀ c ∈ cs, CpOk T G c) {t k : Nat} (ht : 100 ≤ t) (hu : ∀ c ∈ cs, c.tg t = true → c = cl t k) (hm : cl t k ∈ cs) (ho : Ok (Jf T G (cS cs)) s ρ σ) : Ok (Jf T G (cS cs)) (hl12 t k s) ρ σ := by
  obtain ⟨H, i1, i2⟩ := ho.inv
  unfold hl12
  split
  · rename_i a ha
    split
    · rename_i w hw
      cases hb : w.isI && leAV s a w with
      | false => exact ho
      | true =>
        rw [Bool.and_eq_true] at hb
        rcases i1.lkp (t := t) with ⟨q1, q2⟩ | ⟨a', z, q1, q2, q3⟩
        · rw [ha] at q1; cases q1
        · rw [ha] at q1
          cases Option.some.inj q1
          refine ⟨ho.len, ho.env, ho.me, ho.cg, ho.df, ho.fa, hset t (z + 1) H, i1.set (shA_ev q3), Jf_tag hwf hc ht (fun u hu2 => by rw [lk_hset, if_neg hu2]) i2 (fun c q e => ?_)⟩
          rw [hu c q e]
          intro d hd j hj
          rw [lk_hset, if_pos rfl] at hd
          have hd := Option.some.inj hd
          by_cases e : (j : Int) = z
          · obtain ⟨j', f1, f2⟩ := ho.me _ (mget_mem hw)
            have ej : j' = j := by
              have := Option.some.inj (f1.symm.trans q3)
              omega
            subst ej
            have f3 := me_at ho hw f1 hb.1
            exact leAV_ok ho hb.2 f1 f3
          · exact i2.2.2 _ hm z q2 j (by omega)
    · exact ho
  · exact ho
theorem hl13_ok (hwf : T.wf = true) (hc : ∀ c ∈ cs, CpOk T G c) {t k : Nat} (ht : 100 ≤ t) (hu : ∀ c ∈ cs, c.tg t = true → c = cl t k) (hm : cl t k ∈ cs) (ho : Ok (Jf T G (cS cs)) s ρ σ) : Ok (Jf T G (cS cs)) (hl13 t s) ρ σ := by
  obtain ⟨H, i1, i2⟩ := ho.inv
  unfold hl13
  split
  · rename_i a ha
    rcases i1.lkp (t := t) with ⟨q1, q2⟩ | ⟨a', z, q1, q2, q3⟩
    · rw [ha] at q1; cases q1
    · rw [ha] at q1
      cases Option.some.inj q1
      refine ⟨ho.len, ho.env, ho.me, ho.cg, ho.df, ho.fa, hset t (z + -1) H, i1.set (shA_ev q3), Jf_tag hwf hc ht (fun u hu2 => by rw [lk_hset, if_neg hu2]) i2 (fun c q e => ?_)⟩
      rw [hu c q e]
      intro d hd j hj
      rw [lk_hset, if_pos rfl] at hd
      have hd := Option.some.inj hd
      exact i2.2.2 _ hm z q2 j (by omega)
  · exact ho
theorem hl14_ok (hwf : T.wf = true) (hc : ∀ c ∈ cs, CpOk T G c) {t k : Nat} (ht : 100 ≤ t) (hu : ∀ c ∈ cs, c.tg t = true → c = cl t k) (ho : Ok (Jf T G (cS cs)) s ρ σ) : Ok (Jf T G (cS cs)) (hl14 t s) ρ σ := by
  obtain ⟨H, i1, i2⟩ := ho.inv
  unfold hl14
  split
  · exact ho
  · refine ⟨ho.len, ho.env, ho.me, ho.cg, ho.df, ho.fa, (t, 0) :: H, ⟨⟨rfl, rfl⟩, i1⟩, Jf_tag hwf hc ht (H := H) (fun u hu2 => ?_) i2 (fun c q e => ?_)⟩
    · rw [lkq_cons]; show (bif Nat.beq t u then _ else lk H u) = _
      cases hb : Nat.beq t u with
      | false => rfl
      | true => exact absurd (Nat.eq_of_beq_eq_true hb).symm hu2
    · rw [hu c q e]
      intro d hd j hj
      have e3 : lk ((t, (0 : Int)) :: H) t = some 0 := by
        rw [lkq_cons]; show (bif Nat.beq t t then some (0 : Int) else _) = _
        rw [Nat.beq_refl]
        rfl
      have := Option.some.inj (e3.symm.trans hd)
      omega
theorem hl15_ok {J : Jt} {k : Nat} {a : AV} {z : Int} (hz : ev ρ a = some z) (hle : ∀ j : Nat, (j : Int) < z → (j : Int) ≤ (σ.1 k j).toInt) : ∀ {es : List (Nat × (AV × AV))} {s : Sy}, Ok J s ρ σ → (∀ e ∈ es, Mf ρ σ e) → Ok J (hl15 k a es s) ρ σ
  | [], s, ho, _ => ho
  | e :: r, s, ho, hes => by
    unfold hl15
    have rest := fun e' he' => hes e' (List.mem_cons_of_mem e he')
    cases hb : Nat.beq e.1 k && (e.2.2.isI && leAV s (shA e.2.1 1) a) with
    | false => exact hl15_ok hz hle ho rest
    | true =>
      simp only [Bool.and_eq_true] at hb
      have hk := Nat.eq_of_beq_eq_true hb.1
      obtain ⟨j, f1, f2⟩ := hes e (List.mem_cons_self ..)
      have f3 : ev ρ e.2.2 = some (σ.1 e.1 j).toInt := by
        rcases f2 with ⟨_, f2⟩ | ⟨q, _⟩
        · exact f2
        · exact (isI_L hb.2.1 q).elim
      have h1 := leAV_ok ho hb.2.2 (shA_ev f1) hz
      have h2 : (j : Int) ≤ (σ.1 e.1 j).toInt := by
        rw [hk]
        exact hle j (by omega)
      simp only [cond_true]
      exact hl15_ok hz hle (below_ok ho f1 f3 h2) rest
end H16
end
