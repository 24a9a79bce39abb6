noncomputable section
/-! ===== THE WALK, 9: behind a call ===== -/
/-- a pattern's value, its numbers being th -/
def insA (th : List AV) (p : AV) : Option AV := match p with
  | .inl (id, o) => match th[id]? with
    | some a => bif a.isI then some (shA a o) else none
    | none => none
  | .inr (.inr (.inl (id, o))) => match th[id]? with
    | some a => bif a.isL then some (shA a o) else none
    | none => none
  | p => some p
/-- is what a place holds the same behind a call -/
def keeps (G : Gl) (q : Ct) (th : List AV) (s : Sy) (e : Nat × (AV × AV)) : Bool := match G.ka.get e.1 with
  | some _ => !(isS (q.w.get (e.1 * 1024 + 1023))) || q.lw.any fun f => Nat.beq f.1 e.1 && (match plc th f.2 with
    | some a => leqd s 2 (tlin (-1) (nf s a).1 (nf s e.2.1).1) ((nf s a).2 - (nf s e.2.1).2 - 1)
    | none => false)
  | none => match e.2.1 with
    | .inr (.inl (.ofNat j)) => !(isS (q.w.get (e.1 * 1024 + j)))
    | _ => false
def Sy.behind (s : Sy) (G : Gl) (q : Ct) (th : List AV) : Sy := (s.nx, (s.env, (s.me.filter (keeps G q th s), s.2.2.2)))
/-- n numbers more -/
def Sy.grow (s : Sy) (n : Nat) : Sy := (s.nx + n, s.2)
/-- more of a value; none: it cannot be -/
def Sy.refd (s : Sy) (a : AV) (d : Dom) : Option Sy := match dand (dom s a) d with
  | [] => none
  | p :: r => some (s.set a (p :: r))
def Sy.addc' (s : Sy) (a : AV) (m r : Int) : Sy := match a with
  | .inl (id, o) => (s.nx, (s.env, (s.me, ((id, (m, r - o)) :: s.cg, s.2.2.2.2))))
  | _ => s
/-- a place holds v: if it is known to hold something, that is v -/
def Sy.addm (s : Sy) (k : Nat) (p v : AV) : Option Sy := match mget s.me k p with
  | some w => bif (w.isI && v.isI) || (w.isL && v.isL) then s.refd w (dom s v) else some (s.add k p v)
  | none => some (s.add k p v)
def insE (th : List AV) : List (Nat × Dom) → Sy → Option Sy
  | [], s => some s
  | e :: r, s => match th[e.1]? with
    | some a => match s.refd a e.2 with
      | some s' => insE th r s'
      | none => none
    | none => insE th r s
def insC (th : List AV) : List (Nat × (Int × Int)) → Sy → Sy
  | [], s => s
  | e :: r, s => match th[e.1]? with
    | some a => insC th r (s.addc' a e.2.1 e.2.2)
    | none => insC th r s
def insF (th : List AV) : List (Lf × Int) → Sy → Option Sy
  | [], s => some s
  | e :: r, s => match tth s th e.1 with
    | some (g, k) => match s.factx g (e.2 - k) with
      | some s' => insF th r s'
      | none => none
    | none => insF th r s
def insM (th : List AV) : List (Nat × (AV × AV)) → Sy → Option Sy
  | [], s => some s
  | e :: r, s => match insA th e.2.1, insA th e.2.2 with
    | some p, some v => match s.addm e.1 p v with
      | some s' => insM th r s'
      | none => none
    | _, _ => insM th r s
/-- what is known at an end, put into the state: th stands for the first numbers -/
def inst (s : Sy) (th : List AV) (a : Kn) : Option (Sy × List AV) :=
  let ks := a.ks.drop th.length
  let th' := th ++ ids s.nx ks
  match insE th' a.env (s.grow ks.length) with
  | some s1 => match insF th' a.fa (insC th' a.cg s1) with
    | some s2 => match insM th' a.me s2 with
      | some s3 => some (s3, th')
      | none => none
    | none => none
  | none => none
def insH (th : List AV) : List (Nat × AV) → Option (List (Nat × AV))
  | [] => some []
  | e :: r => match insA th e.2, insH th r with
    | some a, some l => some ((e.1, a) :: l)
    | _, _ => none
/-- other open rows -/
def Sy.seth (s : Sy) (hl : List (Nat × AV)) : Sy := (s.nx, (s.env, (s.me, (s.cg, (s.df, (s.fa, hl))))))
section W9
variable {J : Jt} {s : Sy} {ρ : List Int} {σ : zS}
theorem Ok.grow (h : Ok J s ρ σ) {t : List Int} : Ok J (s.grow t.length) (ρ ++ t) σ := by
  have hp : Pre ρ (ρ ++ t) := ⟨t, rfl⟩
  refine ⟨by simp [Sy.grow, h.len], fun e he => ?_, fun e he => (h.me e he).mono hp, fun e he => ?_, fun e he => ?_, fun e he => ?_, ?_⟩
  · obtain ⟨y, h1, h2⟩ := h.env e he
    exact ⟨y, hp.at h1, h2⟩
  · obtain ⟨y, h1, h2⟩ := h.cg e he
    exact ⟨y, hp.at h1, h2⟩
  · obtain ⟨y, v, h1, h2, h3⟩ := h.df e he
    exact ⟨y, v, hp.at h1, tvo.mono hp h2, h3⟩
  · obtain ⟨v, h1, h2⟩ := h.fa e he
    exact ⟨v, tvo.mono hp h1, h2⟩
  · obtain ⟨H, h1, h2⟩ := h.inv
    exact ⟨H, h1.mono hp, h2⟩
theorem refd_ok (h : Ok J s ρ σ) {a : AV} {x : Int} {d : Dom} (hx : ev ρ a = some x) (hk : inD x (dom s a)) (hd : inD x d) : ∃ s', s.refd a d = some s' ∧ Ok J s' ρ σ := by
  unfold Sy.refd
  have h1 := dand_in hk hd
  cases hc : dand (dom s a) d with
  | nil => rw [hc] at h1; exact (inD_nil h1).elim
  | cons p r => rw [hc] at h1; exact ⟨_, rfl, h.set hx h1⟩
theorem addc'_ok (h : Ok J s ρ σ) {a : AV} {x m r : Int} (hx : ev ρ a = some x) (hr : ∃ q, x = m * q + r) : Ok J (s.addc' a m r) ρ σ := by
  rcases a with ⟨id, o⟩ | n | ⟨id, o⟩ | n | q | ⟨b, n⟩
  · refine ⟨h.len, h.env, h.me, fun e he => ?_, h.df, h.fa, h.inv⟩
    rcases List.mem_cons.mp he with rfl | he
    · simp only [ev] at hx
      cases hi : ρ[id]? with
      | none => rw [hi] at hx; cases hx
      | some y =>
        rw [hi] at hx
        have hx := Option.some.inj hx
        obtain ⟨q, hq⟩ := hr
        exact ⟨y, rfl, q, by dsimp only; omega⟩
    · exact h.cg e he
  · exact h
  · exact h
  · exact h
  · exact h
  · exact h
theorem insE_ok {th : List AV} (hd : Df ρ th) : ∀ {l : List (Nat × Dom)} {s : Sy}, Ok J s ρ σ → (∀ e ∈ l, ∃ x, (vals ρ th)[e.1]? = some x ∧ inD x e.2) → ∃ s', insE th l s = some s' ∧ Ok J s' ρ σ
  | [], s, h, _ => ⟨s, rfl, h⟩
  | e :: r, s, h, hl => by
    unfold insE
    cases ht : th[e.1]? with
    | none => exact insE_ok hd h (fun e' he => hl e' (List.mem_cons_of_mem _ he))
    | some a =>
      obtain ⟨y, hy⟩ := hd.ev ht
      obtain ⟨x, h1, h2⟩ := hl e (List.mem_cons_self ..)
      rw [vals_at ht hy] at h1
      cases Option.some.inj h1
      obtain ⟨s', g1, g2⟩ := refd_ok h hy (domR h (hd a (List.mem_of_getElem? ht)) hy) h2
      dsimp only
      rw [g1]
      exact insE_ok hd g2 (fun e' he => hl e' (List.mem_cons_of_mem _ he))
theorem insC_ok {th : List AV} (hd : Df ρ th) : ∀ {l : List (Nat × (Int × Int))} {s : Sy}, Ok J s ρ σ → (∀ e ∈ l, ∃ x, (vals ρ th)[e.1]? = some x ∧ ∃ q, x = e.2.1 * q + e.2.2) → Ok J (insC th l s) ρ σ
  | [], s, h, _ => h
  | e :: r, s, h, hl => by
    unfold insC
    cases ht : th[e.1]? with
    | none => exact insC_ok hd h (fun e' he => hl e' (List.mem_cons_of_mem _ he))
    | some a =>
      obtain ⟨y, hy⟩ := hd.ev ht
      obtain ⟨x, h1, h2⟩ := hl e (List.mem_cons_self ..)
      rw [vals_at ht hy] at h1
      cases Option.some.inj h1
      exact insC_ok hd (addc'_ok h hy h2) (fun e' he => hl e' (List.mem_cons_of_mem _ he))
theorem insF_ok {th : List AV} (hd : Df ρ th) : ∀ {l : List (Lf × Int)} {s : Sy}, Ok J s ρ σ → (∀ e ∈ l, ∃ v, tvo (vals ρ th) e.1 = some v ∧ v ≤ e.2) → ∃ s', insF th l s = some s' ∧ Ok J s' ρ σ
  | [], s, h, _ => ⟨s, rfl, h⟩
  | e :: r, s, h, hl => by
    unfold insF
    cases ht : tth s th e.1 with
    | none => exact insF_ok hd h (fun e' he => hl e' (List.mem_cons_of_mem _ he))
    | some q =>
      obtain ⟨g, k⟩ := q
      obtain ⟨u, h1, h2⟩ := tth_ok h hd ht
      obtain ⟨v, h3, h4⟩ := hl e (List.mem_cons_self ..)
      rw [h2] at h3
      have h3 := Option.some.inj h3
      obtain ⟨s', g1, g2⟩ := factx_ok h (c := e.2 - k) h1 (by omega)
      dsimp only
      rw [g1]
      exact insF_ok hd g2 (fun e' he => hl e' (List.mem_cons_of_mem _ he))
theorem insA_ok {th : List AV} (hd : Df ρ th) {p a : AV} (hp : insA th p = some a) : (p.isI = true → a.isI = true) ∧ (p.isL = true → a.isL = true) ∧ ∀ x, ev (vals ρ th) p = some x → ev ρ a = some x := by
  have sh : ∀ {b : AV} {o : Int}, (shA b o).isI = b.isI ∧ (shA b o).isL = b.isL := by
    intro b o
    rcases b with ⟨_, _⟩ | _ | ⟨_, _⟩ | _ | _ | ⟨_, _⟩ <;> exact ⟨rfl, rfl⟩
  have gen : ∀ (id : Nat) (o x : Int) (b : AV), th[id]? = some b → (match (vals ρ th)[id]? with | some x => some (x + o) | none => none) = some x → ev ρ (shA b o) = some x := by
    intro id o x b hb hx
    obtain ⟨z, hz⟩ := hd.ev hb
    rw [vals_at hb hz] at hx
    rw [shA_ev hz]
    exact hx
  rcases p with ⟨id, o⟩ | n | ⟨id, o⟩ | n | q | ⟨b, n⟩
  · simp only [insA] at hp
    cases ht : th[id]? with
    | none => rw [ht] at hp; cases hp
    | some b =>
      rw [ht] at hp
      simp only at hp
      cases hi : b.isI with
      | false => rw [hi] at hp; cases hp
      | true =>
        rw [hi] at hp
        cases Option.some.inj hp
        exact ⟨fun _ => by rw [sh.1]; exact hi, fun q => (by cases q), fun x hx => gen id o x b ht hx⟩
  · cases Option.some.inj hp; exact ⟨fun q => q, fun q => q, fun x hx => hx⟩
  · simp only [insA] at hp
    cases ht : th[id]? with
    | none => rw [ht] at hp; cases hp
    | some b =>
      rw [ht] at hp
      simp only at hp
      cases hi : b.isL with
      | false => rw [hi] at hp; cases hp
      | true =>
        rw [hi] at hp
        cases Option.some.inj hp
        exact ⟨fun q => (by cases q), fun _ => by rw [sh.2]; exact hi, fun x hx => gen id o x b ht hx⟩
  · cases Option.some.inj hp; exact ⟨fun q => q, fun q => q, fun x hx => hx⟩
  · cases Option.some.inj hp; exact ⟨fun q => q, fun q => q, fun x hx => hx⟩
  · cases Option.some.inj hp; exact ⟨fun q => q, fun q => q, fun x hx => hx⟩
theorem addm_ok (h : Ok J s ρ σ) {k : Nat} {p v : AV} (hm : Mf ρ σ (k, (p, v))) : ∃ s', s.addm k p v = some s' ∧ Ok J s' ρ σ := by
  unfold Sy.addm
  cases hg : mget s.me k p with
  | none => exact ⟨_, rfl, h.addm hm⟩
  | some w =>
    dsimp only
    cases hc : (w.isI && v.isI) || (w.isL && v.isL) with
    | false => exact ⟨_, rfl, h.addm hm⟩
    | true =>
      simp only [cond_true]
      obtain ⟨j, j1, j2⟩ := h.me _ (mget_mem hg)
      obtain ⟨i, i1, i2⟩ := hm
      have hij : i = j := by
        have := Option.some.inj (i1.symm.trans j1)
        omega
      subst hij
      simp only [Bool.or_eq_true, Bool.and_eq_true] at hc
      rcases hc with ⟨c1, c2⟩ | ⟨c1, c2⟩
      · rcases j2 with ⟨_, j3⟩ | ⟨j3, _⟩
        · rcases i2 with ⟨_, i3⟩ | ⟨i3, _⟩
          · exact refd_ok h j3 (dom_i h c1 j3) (dom_i h c2 i3)
          · exact (isI_L c2 i3).elim
        · exact (isI_L c1 j3).elim
      · rcases j2 with ⟨j3, _⟩ | ⟨_, j3⟩
        · exact (isI_L j3 c1).elim
        · rcases i2 with ⟨i3, _⟩ | ⟨_, i3⟩
          · exact (isI_L i3 c2).elim
          · exact refd_ok h j3 (dom_l h c1 j3) (dom_l h c2 i3)
theorem insM_ok {th : List AV} (hd : Df ρ th) : ∀ {l : List (Nat × (AV × AV))} {s : Sy}, Ok J s ρ σ → (∀ e ∈ l, Mf (vals ρ th) σ e) → ∃ s', insM th l s = some s' ∧ Ok J s' ρ σ
  | [], s, h, _ => ⟨s, rfl, h⟩
  | e :: r, s, h, hl => by
    unfold insM
    cases hp : insA th e.2.1 with
    | none => exact insM_ok hd h (fun e' he => hl e' (List.mem_cons_of_mem _ he))
    | some p =>
      cases hv : insA th e.2.2 with
      | none => exact insM_ok hd h (fun e' he => hl e' (List.mem_cons_of_mem _ he))
      | some v =>
        obtain ⟨j, j1, j2⟩ := hl e (List.mem_cons_self ..)
        obtain ⟨_, _, a3⟩ := insA_ok hd hp
        obtain ⟨b1, b2, b3⟩ := insA_ok hd hv
        have hm : Mf ρ σ (e.1, (p, v)) := by
          refine ⟨j, a3 _ j1, ?_⟩
          rcases j2 with ⟨g1, g2⟩ | ⟨g1, g2⟩
          · exact Or.inl ⟨b1 g1, b3 _ g2⟩
          · exact Or.inr ⟨b2 g1, b3 _ g2⟩
        obtain ⟨s', g1, g2⟩ := addm_ok h hm
        dsimp only
        rw [g1]
        exact insM_ok hd g2 (fun e' he => hl e' (List.mem_cons_of_mem _ he))
/-- an end, put into the state -/
theorem inst_ok {J' : Jt} (h : Ok J s ρ σ) {th : List AV} {a : Kn} {ρ'' : List Int} (hd : Df ρ th) (ha : Ko J' a ρ'' σ) (hp : Pre (vals ρ th) ρ'') : ∃ s' th' ρ', inst s th a = some (s', th') ∧ Pre ρ ρ' ∧ Ok J s' ρ' σ ∧ Df ρ' th' ∧ vals ρ' th' = ρ'' := by
  obtain ⟨t, rfl⟩ := hp
  have hlen : (vals ρ th ++ t).length = a.ks.length := ha.1.len
  have hn : t.length = (a.ks.drop th.length).length := by
    simp only [vals, List.length_append, List.length_map] at hlen
    simp only [List.length_drop]
    omega
  have hpre : Pre ρ (ρ ++ t) := ⟨t, rfl⟩
  have tdrop : ∀ {ks : List Bool} {n i : Nat} {r : List Int}, Tp r i ks → Tp r (i + n) (ks.drop n) := by
    intro ks
    induction ks with
    | nil => intro n i r _; simp [Tp]
    | cons b ks ih =>
      intro n i r ht
      cases n with
      | zero => exact ht
      | succ n =>
        have := ih (n := n) ht.2
        rw [show i + (n + 1) = i + 1 + n by omega]
        exact this
  have tshift : ∀ {ks : List Bool} {i : Nat} {p q r : List Int}, Tp (p ++ r) (p.length + i) ks → Tp (q ++ r) (q.length + i) ks := by
    intro ks
    induction ks with
    | nil => intro i p q r _; trivial
    | cons b ks ih =>
      intro i p q r ht
      obtain ⟨⟨x, h1, h2⟩, h3⟩ := ht
      refine ⟨⟨x, ?_, h2⟩, ih (i := i + 1) h3⟩
      rw [List.getElem?_append_right (by omega)] at h1 ⊢
      rw [show q.length + i - q.length = p.length + i - p.length by omega]
      exact h1
  have htp : Tp (ρ ++ t) s.nx (a.ks.drop th.length) := by
    have h1 := tdrop (n := th.length) ha.2
    have h2 : Tp (vals ρ th ++ t) ((vals ρ th).length + 0) (a.ks.drop th.length) := by
      have : (vals ρ th).length = th.length := by simp [vals]
      rw [this]
      simpa using h1
    have h3 := tshift (q := ρ) h2
    rw [h.len] at h3
    simpa using h3
  have hd' : Df (ρ ++ t) (th ++ ids s.nx (a.ks.drop th.length)) := by
    intro b hb
    rcases List.mem_append.mp hb with hb | hb
    · rcases hd b hb with ⟨q, y, hy⟩ | ⟨q, y, hy⟩
      · exact Or.inl ⟨q, y, ev.mono hpre hy⟩
      · exact Or.inr ⟨q, y, ev.mono hpre hy⟩
    · exact ids_df htp b hb
  have hv : vals (ρ ++ t) (th ++ ids s.nx (a.ks.drop th.length)) = vals ρ th ++ t := by
    have e1 : vals (ρ ++ t) th = vals ρ th := by
      unfold vals
      refine List.map_congr_left fun b hb => ?_
      rcases hd b hb with ⟨_, y, hy⟩ | ⟨_, y, hy⟩
      · rw [ev.mono hpre hy, hy]
      · rw [ev.mono hpre hy, hy]
    have e2 := ids_vals htp
    have e3 : vals (ρ ++ t) (th ++ ids s.nx (a.ks.drop th.length)) = vals (ρ ++ t) th ++ vals (ρ ++ t) (ids s.nx (a.ks.drop th.length)) := by simp [vals]
    rw [e3, e1, e2, ← hn, ← h.len]
    simp
  have hg : Ok J (s.grow (a.ks.drop th.length).length) (ρ ++ t) σ := by
    rw [← hn]
    exact h.grow
  obtain ⟨s1, g1, g2⟩ := insE_ok (l := a.env) hd' hg (by rw [hv]; exact ha.1.env)
  have g3 := insC_ok (l := a.cg) hd' g2 (by rw [hv]; exact ha.1.cg)
  obtain ⟨s2, g4, g5⟩ := insF_ok (l := a.fa) hd' g3 (by rw [hv]; exact ha.1.fa)
  obtain ⟨s3, g6, g7⟩ := insM_ok (l := a.me) hd' g5 (by rw [hv]; exact ha.1.me)
  refine ⟨s3, th ++ ids s.nx (a.ks.drop th.length), ρ ++ t, ?_, hpre, g7, hd', hv⟩
  unfold inst
  dsimp only
  rw [g1]
  dsimp only
  rw [g4]
  dsimp only
  rw [g6]
theorem insH_ok {th : List AV} (hd : Df ρ th) : ∀ {l l' : List (Nat × AV)} {H : List (Nat × Int)}, insH th l = some l' → Hl (vals ρ th) l H → Hl ρ l' H
  | [], l', H, h, hh => by
    cases Option.some.inj h
    cases H with
    | nil => trivial
    | cons _ _ => exact hh.elim
  | e :: r, l', H, h, hh => by
    cases H with
    | nil => exact hh.elim
    | cons f H =>
      unfold insH at h
      cases ha : insA th e.2 with
      | none => rw [ha] at h; cases h
      | some a =>
        cases hr : insH th r with
        | none => rw [ha, hr] at h; cases h
        | some l =>
          rw [ha, hr] at h
          cases Option.some.inj h
          exact ⟨⟨hh.1.1, (insA_ok hd ha).2.2 _ hh.1.2⟩, insH_ok hd hr hh.2⟩
end W9
end
