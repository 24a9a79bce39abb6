noncomputable section
/-! ===== WHAT ELSE HOLDS, 17: a row that has a 0 ===== -/
theorem zer_pos {σ : zS} {k j : Nat} (h : (σ.1 k j).toInt = 0) : ∀ n : Nat, j < n → 1 ≤ zer σ k n
  | 0, hj => absurd hj (Nat.not_lt_zero _)
  | n + 1, hj => by
    have h0 := zer_in (σ := σ) (k := k) n
    unfold zer
    by_cases e : j = n
    · subst e
      rw [if_pos h]
      omega
    · have := zer_pos h n (by omega)
      split <;> omega
theorem edom_ok' {J : Jt} {s : Sy} {ρ : List Int} {σ : zS} {a : AV} {x : Int} (ho : Ok J s ρ σ) (h : isS (edom s a) = true) (hx : ev ρ a = some x) : inD x (dom s a) := by
  obtain ⟨d, hd⟩ := isS_some h
  rw [edom_dom hd]
  exact edom_ok ho hd hx
def hz16 (k n : Nat) (a : AV) : List (Nat × (AV × AV)) → Sy → Option Sy
  | [], s => some s
  | e :: r, s => match (bif Nat.beq e.1 k && (e.2.2.isI && (dsub (dom s e.2.2) [(0, 0)] && (inR s e.2.1 0 ((n : Int) - 1) && (isS (edom s e.2.1) && isS (edom s a))))) then s.refd a [(1, (n : Int))] else some s) with
    | some s' => hz16 k n a r s'
    | none => none
theorem hz16_ok {J : Jt} {ρ : List Int} {σ : zS} {k n : Nat} {a : AV} (hz : ev ρ a = some (zer σ k n)) : ∀ {es : List (Nat × (AV × AV))} {s : Sy}, Ok J s ρ σ → (∀ e ∈ es, Mf ρ σ e) → ∃ s', hz16 k n a es s = some s' ∧ Ok J s' ρ σ
  | [], s, ho, _ => ⟨s, rfl, ho⟩
  | e :: r, s, ho, hes => by
    unfold hz16
    have rest := fun e' he' => hes e' (List.mem_cons_of_mem e he')
    cases hb : Nat.beq e.1 k && (e.2.2.isI && (dsub (dom s e.2.2) [(0, 0)] && (inR s e.2.1 0 ((n : Int) - 1) && (isS (edom s e.2.1) && isS (edom s a))))) with
    | false => exact hz16_ok hz ho rest
    | true =>
      simp only [Bool.and_eq_true] at hb
      have hk := Nat.eq_of_beq_eq_true hb.1
      obtain ⟨j, f1, f2⟩ := hes e (List.mem_cons_self ..)
      have f3 : ev ρ e.2.2 = some (σ.1 e.1 j).toInt := by
        rcases f2 with ⟨_, f2⟩ | ⟨q, _⟩
        · exact f2
        · exact (isI_L hb.2.1 q).elim
      have h0 := inD_one (dsub_in hb.2.2.1 (dom_i ho hb.2.1 f3))
      have hj : j < n := by
        have h5 := hb.2.2.2.2.1
        have := inR_ok ho hb.2.2.2.1 f1 (edom_ok' ho h5 f1)
        omega
      have hp := zer_pos (σ := σ) (k := k) (j := j) (by rw [← hk]; omega) n hj
      have hn := (zer_in (σ := σ) (k := k) n).2
      obtain ⟨s', e1, e2⟩ := refd_ok ho hz (edom_ok' ho hb.2.2.2.2.2 hz) (d := [(1, (n : Int))]) ⟨_, List.mem_cons_self .., hp, hn⟩
      simp only [cond_true, e1]
      exact hz16_ok hz e2 rest
def hl17 (t k : Nat) (s : Sy) : Sy := match lk s.hl t with
  | some a => match mget s.me k (pl s a) with
    | some w => bif w.isI && (leAV s a w && (leAV s a (pl s a) && leAV s (pl s a) a)) then s.seth (hset t (shA a 1) s.hl) else s
    | none => s
  | none => s
theorem hl17_ok {T : Jx} {G : Gl} {cs : List Cp} {s : Sy} {ρ : List Int} {σ : zS} (hwf : T.wf = true) (hc : ∀ c ∈ cs, CpOk T G c) {t k : Nat} (ht : 100 ≤ t) (hu : ∀ c ∈ cs, c.tg t = true → c = cl t k) (hm : cl t k ∈ cs) (ho : Ok (Jf T G (cS cs)) s ρ σ) : Ok (Jf T G (cS cs)) (hl17 t k s) ρ σ := by
  obtain ⟨H, i1, i2⟩ := ho.inv
  unfold hl17
  split
  · rename_i a ha
    split
    · rename_i w hw
      cases hb : w.isI && (leAV s a w && (leAV s a (pl s a) && leAV s (pl s a) a)) with
      | false => exact ho
      | true =>
        simp only [Bool.and_eq_true] at hb
        rcases i1.lkp (t := t) with ⟨q1, q2⟩ | ⟨a', z, q1, q2, q3⟩
        · rw [ha] at q1; cases q1
        · rw [ha] at q1
          cases Option.some.inj q1
          refine ⟨ho.len, ho.env, ho.me, ho.cg, ho.df, ho.fa, hset t (z + 1) H, i1.set (shA_ev q3), Jf_tag hwf hc ht (fun u hu2 => by rw [lk_hset, if_neg hu2]) i2 (fun c q e => ?_)⟩
          rw [hu c q e]
          intro d hd j hj
          rw [lk_hset, if_pos rfl] at hd
          have hd := Option.some.inj hd
          by_cases e : (j : Int) = z
          · obtain ⟨j', f1, f2⟩ := ho.me _ (mget_mem hw)
            have f4 := leAV_ok ho hb.2.2.1 q3 f1
            have f5 := leAV_ok ho hb.2.2.2 f1 q3
            have ej : j' = j := by omega
            subst ej
            have f3 := me_at ho hw f1 hb.1
            have f6 := leAV_ok ho hb.2.1 q3 f3
            omega
          · exact i2.2.2 _ hm z q2 j (by omega)
    · exact ho
  · exact ho
end
