noncomputable section
/-! ===== WHAT ELSE HOLDS, 21: climbing a tree ===== -/
/-- a tag's value, in its place -/
def hup {α : Type} (t : Nat) (a : α) : List (Nat × α) → List (Nat × α)
  | [] => []
  | e :: r => bif Nat.beq e.1 t then (e.1, a) :: r else e :: hup t a r
theorem Hl.up {ρ : List Int} {t : Nat} {a : AV} {x : Int} (hx : ev ρ a = some x) : ∀ {l : List (Nat × AV)} {H : List (Nat × Int)}, Hl ρ l H → Hl ρ (hup t a l) (hup t x H)
  | [], [], _ => trivial
  | e :: r, h :: q, ⟨h1, h2⟩ => by
    unfold hup
    rw [← h1.1]
    cases Nat.beq e.1 t with
    | true => exact ⟨⟨rfl, hx⟩, h2⟩
    | false => exact ⟨h1, Hl.up hx h2⟩
  | [], _ :: _, q => q.elim
  | _ :: _, [], q => q.elim
theorem lk_hup_ne {α : Type} {t u : Nat} {a : α} (h : u ≠ t) : ∀ {l : List (Nat × α)}, lk (hup t a l) u = lk l u
  | [] => rfl
  | e :: r => by
    have ih := lk_hup_ne (a := a) h (l := r)
    unfold hup
    cases hb : Nat.beq e.1 t with
    | true =>
      have he := Nat.eq_of_beq_eq_true hb
      show lk ((e.1, a) :: r) u = lk (e :: r) u
      rw [lkq_cons, lkq_cons]
      show (bif Nat.beq e.1 u then some a else lk r u) = (bif Nat.beq e.1 u then some e.2 else lk r u)
      have : Nat.beq e.1 u = false := by
        cases hc : Nat.beq e.1 u with
        | false => rfl
        | true => exact absurd ((Nat.eq_of_beq_eq_true hc).symm.trans he) h
      rw [this]
      rfl
    | false =>
      show lk (e :: hup t a r) u = lk (e :: r) u
      rw [lkq_cons, lkq_cons]
      show (bif Nat.beq e.1 u then some e.2 else lk (hup t a r) u) = (bif Nat.beq e.1 u then some e.2 else lk r u)
      rw [ih]
theorem lk_hup_at {α : Type} {t : Nat} {a b : α} : ∀ {l : List (Nat × α)}, lk l t = some b → lk (hup t a l) t = some a
  | [], h => by cases h
  | e :: r, h => by
    unfold hup
    cases hb : Nat.beq e.1 t with
    | true =>
      show lk ((e.1, a) :: r) t = _
      rw [lkq_cons]
      show (bif Nat.beq e.1 t then some a else lk r t) = _
      rw [hb]
      rfl
    | false =>
      have h : (bif Nat.beq e.1 t then some e.2 else lk r t) = some b := lkq_cons.symm.trans h
      rw [hb] at h
      show lk (e :: hup t a r) t = _
      rw [lkq_cons]
      show (bif Nat.beq e.1 t then some e.2 else lk (hup t a r) t) = _
      rw [hb]
      exact lk_hup_at h
def ht22 (kF jB : Nat) (a : AV) (s : Sy) : Sy := bif begun kF jB s s.hl && (a.isI && (!(isS (lk s.hl 300)) && !(isS (lk s.hl 301)))) then (s.new [(0, 41)]).seth ((300, a) :: (301, .i s.nx 0) :: s.hl) else s
def ht23 (kP kF jB : Nat) (a : AV) (s : Sy) : Sy := match lk s.hl 300, lk s.hl 301 with
  | some x, some n => match mget s.me kP (pl s x) with
    | some w => bif (begun kF jB s s.hl && (a.isI && w.isI)) && ((eqAV s w a && eqAV s x (pl s x)) && (leAV s (.c 0) x && leAV s x (.c 39))) then ((s.new [(0, 41)]).less (.i s.nx 0) n).seth (hup 300 a (hup 301 (.i s.nx 0) s.hl)) else s
    | none => s
  | _, _ => s
def ht25 (a b : AV) (s : Sy) : Sy := bif (a.isI && b.isI) && (!(isS (lk s.hl 302)) && (!(isS (lk s.hl 303)) && !(isS (lk s.hl 304)))) then s.seth ((302, a) :: (303, b) :: (304, a) :: s.hl) else s
def ht26 (kP : Nat) (a : AV) (s : Sy) : Sy := match lk s.hl 303, lk s.hl 304 with
  | some t, some x => match mget s.me kP (pl s x) with
    | some w => bif (a.isI && w.isI) && ((eqAV s w a && eqAV s x (pl s x)) && (leAV s (.c 0) x && apart s x t)) then s.seth (hup 304 a s.hl) else s
    | none => s
  | _, _ => s
section H21
variable {T : Jx} {G : Gl} {cs : List Cp} {s : Sy} {ρ : List Int} {σ : zS} {kP kF jT jB : Nat}
theorem tag_get {J : Jt} (ho : Ok J s ρ σ) {H : List (Nat × Int)} (hh : Hl ρ s.hl H) {t : Nat} {a : AV} (h : lk s.hl t = some a) : ∃ z, lk H t = some z ∧ ev ρ a = some z := by
  rcases hh.lkp (t := t) with ⟨q, _⟩ | ⟨a', z, q, q', q''⟩
  · rw [h] at q; cases q
  · rw [h] at q; cases Option.some.inj q; exact ⟨z, q', q''⟩
theorem ht22_ok (hwf : T.wf = true) (hc : ∀ c ∈ cs, CpOk T G c) (hm : ctr kP kF jT jB ∈ cs) (hu : ∀ c ∈ cs, ∀ t, t = 300 ∨ t = 301 → c.tg t = true → c = ctr kP kF jT jB) {a : AV} {z : Int} (hz : ev ρ a = some z) (ho : Ok (Jf T G (cS cs)) s ρ σ) : ∃ ρ', Pre ρ ρ' ∧ Ok (Jf T G (cS cs)) (ht22 kF jB a s) ρ' σ := by
  unfold ht22
  cases hb : begun kF jB s s.hl && (a.isI && (!(isS (lk s.hl 300)) && !(isS (lk s.hl 301)))) with
  | false => exact ⟨ρ, Pre.rf, ho⟩
  | true =>
    simp only [Bool.and_eq_true] at hb
    obtain ⟨H, i1, i2⟩ := ho.inv
    obtain ⟨b1, b2⟩ := begun_ok ho i1 hb.1
    have n300 := lk_no i1 hb.2.2.1
    have hS : tS kP kF jT jB H σ := i2.2.2 _ hm
    obtain ⟨s1, s2, s3, s4, s5⟩ := hS
    obtain ⟨r, a1, _⟩ := s1 (s3 b1 b2)
    have hr := rk_in (r := r) (x := z)
    have hq := ho.new (x := rk r z) (d := [(0, 41)]) ⟨_, List.mem_cons_self .., hr.1, hr.2⟩
    have hp : Pre ρ (ρ ++ [rk r z]) := ⟨_, rfl⟩
    refine ⟨ρ ++ [rk r z], hp, hq.len, hq.env, hq.me, hq.cg, hq.df, hq.fa, (300, z) :: (301, rk r z) :: H, ⟨⟨rfl, ev.mono hp hz⟩, ⟨rfl, ho.new_i⟩, i1.mono hp⟩, ?_⟩
    have k1 : Jf T G (cS cs) ((301, rk r z) :: H) σ := Jf_tag hwf hc (t := 301) (by decide) (fun u hu2 => by rw [lk_cons, if_neg hu2]) i2 (fun c q e => by
      rw [hu c q 301 (Or.inr rfl) e]
      refine ⟨fun _ => ⟨r, a1, fun x n hx => ?_⟩, s2, fun h => s3 (by rw [lk_cons, if_neg (by decide)] at h; exact h), s4, fun q t x h1 h2 h3 => ?_⟩
      · rw [lk_cons, if_neg (by decide), n300] at hx; cases hx
      · rw [lk_cons, if_neg (by decide)] at h1 h2 h3
        exact s5 q t x h1 h2 h3)
    refine Jf_tag hwf hc (t := 300) (by decide) (fun u hu2 => by rw [lk_cons, if_neg hu2]) k1 (fun c q e => ?_)
    rw [hu c q 300 (Or.inl rfl) e]
    refine ⟨fun _ => ⟨r, a1, fun x n hx hn => ?_⟩, s2, fun h => s3 (by rw [lk_cons, if_neg (by decide), lk_cons, if_neg (by decide)] at h; exact h), s4, fun q t x h1 h2 h3 => ?_⟩
    · rw [lk_cons, if_pos rfl] at hx
      rw [lk_cons, if_neg (by decide), lk_cons, if_pos rfl] at hn
      rw [← Option.some.inj hx, ← Option.some.inj hn]
    · rw [lk_cons, if_neg (by decide), lk_cons, if_neg (by decide)] at h1 h2 h3
      exact s5 q t x h1 h2 h3
theorem ht23_ok (hwf : T.wf = true) (hc : ∀ c ∈ cs, CpOk T G c) (hm : ctr kP kF jT jB ∈ cs) (hu : ∀ c ∈ cs, ∀ t, t = 300 ∨ t = 301 → c.tg t = true → c = ctr kP kF jT jB) (h40 : Bd T G σ → ∀ x, x < 40 → Pp σ kP x < 40) {a : AV} {z : Int} (hz : ev ρ a = some z) (ho : Ok (Jf T G (cS cs)) s ρ σ) : ∃ ρ', Pre ρ ρ' ∧ Ok (Jf T G (cS cs)) (ht23 kP kF jB a s) ρ' σ := by
  have same : ∃ ρ', Pre ρ ρ' ∧ Ok (Jf T G (cS cs)) s ρ' σ := ⟨ρ, Pre.rf, ho⟩
  unfold ht23
  split
  · rename_i x n hx hn
    split
    · rename_i w hw
      cases hb : (begun kF jB s s.hl && (a.isI && w.isI)) && ((eqAV s w a && eqAV s x (pl s x)) && (leAV s (.c 0) x && leAV s x (.c 39))) with
      | false => exact same
      | true =>
        simp only [Bool.and_eq_true] at hb
        obtain ⟨⟨c1, c2, c3⟩, ⟨c4, c5⟩, c6, c7⟩ := hb
        obtain ⟨H, i1, i2⟩ := ho.inv
        obtain ⟨b1, b2⟩ := begun_ok ho i1 c1
        have hS : tS kP kF jT jB H σ := i2.2.2 _ hm
        obtain ⟨s1, s2, s3, s4, s5⟩ := hS
        obtain ⟨zx, x1, x2⟩ := tag_get ho i1 hx
        obtain ⟨zn, n1, n2⟩ := tag_get ho i1 hn
        obtain ⟨r, a1, a2⟩ := s1 (s3 b1 b2)
        have en := a2 zx zn x1 n1
        obtain ⟨j', f1, f2⟩ := ho.me _ (mget_mem hw)
        have ej := eqAV_ok ho c5 x2 f1
        have ew := eqAV_ok ho c4 (me_at ho hw f1 c3) hz
        have g0 := leAV_ok ho c6 (x := 0) rfl x2
        have g1 := leAV_ok ho c7 x2 (y := 39) rfl
        have ejn : zx.toNat = j' := by omega
        have hst := rk_step a1 g0 (by omega) (by rw [ejn]; exact h40 i2.1 j' (by omega))
        rw [ejn, show Pp σ kP j' = z from ew] at hst
        have hr := rk_in (r := r) (x := z)
        have hq := ho.new (x := rk r z) (d := [(0, 41)]) ⟨_, List.mem_cons_self .., hr.1, hr.2⟩
        have hp : Pre ρ (ρ ++ [rk r z]) := ⟨_, rfl⟩
        have hq2 := less_ok hq ho.new_i (ev.mono hp n2) (by omega)
        refine ⟨ρ ++ [rk r z], hp, hq2.len, hq2.env, hq2.me, hq2.cg, hq2.df, hq2.fa, hup 300 z (hup 301 (rk r z) H), (i1.mono hp).up ho.new_i |>.up (ev.mono hp hz), ?_⟩
        have k1 : Jf T G (cS cs) (hup 301 (rk r z) H) σ → Jf T G (cS cs) (hup 300 z (hup 301 (rk r z) H)) σ := fun k => Jf_tag hwf hc (t := 300) (by decide) (fun u hu2 => lk_hup_ne hu2) k (fun c q e => by
          rw [hu c q 300 (Or.inl rfl) e]
          refine ⟨fun _ => ⟨r, a1, fun y m hy hm2 => ?_⟩, s2, fun h => s3 (by rw [lk_hup_ne (by decide), lk_hup_ne (by decide)] at h; exact h), s4, fun q t y h1 h2 h3 => ?_⟩
          · rw [lk_hup_at (b := zx) (by rw [lk_hup_ne (by decide)]; exact x1)] at hy
            rw [lk_hup_ne (by decide), lk_hup_at n1] at hm2
            rw [← Option.some.inj hy, ← Option.some.inj hm2]
          · rw [lk_hup_ne (by decide), lk_hup_ne (by decide)] at h1 h2 h3
            exact s5 q t y h1 h2 h3)
        -- by way of a state where tag 300 stands for the end
        have k0 : Jf T G (cS cs) (hup 300 z (hup 301 (rk r z) H)) σ := by
          refine ⟨i2.1, fun r' R hr' j hj hq3 => i2.2.1 r' R hr' j hj (by
            have hlt := (wf_row hwf hr').1
            rw [lk_hup_ne (by omega), lk_hup_ne (by omega)] at hq3
            exact hq3), fun c q => ?_⟩
          by_cases h3 : c.tg 300 = true
          · rw [hu c q 300 (Or.inl rfl) h3]
            refine ⟨fun _ => ⟨r, a1, fun y m hy hm2 => ?_⟩, s2, fun h => s3 (by rw [lk_hup_ne (by decide), lk_hup_ne (by decide)] at h; exact h), s4, fun q t y h1 h2 h3 => ?_⟩
            · rw [lk_hup_at (b := zx) (by rw [lk_hup_ne (by decide)]; exact x1)] at hy
              rw [lk_hup_ne (by decide), lk_hup_at n1] at hm2
              rw [← Option.some.inj hy, ← Option.some.inj hm2]
            · rw [lk_hup_ne (by decide), lk_hup_ne (by decide)] at h1 h2 h3
              exact s5 q t y h1 h2 h3
          · by_cases h4 : c.tg 301 = true
            · have ec := hu c q 301 (Or.inr rfl) h4
              rw [ec] at h3
              exact absurd rfl h3
            · exact (hc c q).dep H _ σ σ (fun u hu2 => by
                have e1 : u ≠ 300 := fun e => h3 (e ▸ hu2)
                have e2 : u ≠ 301 := fun e => h4 (e ▸ hu2)
                rw [lk_hup_ne e1, lk_hup_ne e2]) (fun _ _ => rfl) (i2.2.2 c q)
        exact k0
    · exact same
  · exact same
theorem ht25_ok (hwf : T.wf = true) (hc : ∀ c ∈ cs, CpOk T G c) (hm : ctr kP kF jT jB ∈ cs) (hu : ∀ c ∈ cs, ∀ t, t = 302 ∨ t = 303 ∨ t = 304 → c.tg t = true → c = ctr kP kF jT jB) {a b : AV} {z y : Int} (hz : ev ρ a = some z) (hy : ev ρ b = some y) (ho : Ok (Jf T G (cS cs)) s ρ σ) : Ok (Jf T G (cS cs)) (ht25 a b s) ρ σ := by
  unfold ht25
  cases hb : (a.isI && b.isI) && (!(isS (lk s.hl 302)) && (!(isS (lk s.hl 303)) && !(isS (lk s.hl 304)))) with
  | false => exact ho
  | true =>
    simp only [Bool.and_eq_true] at hb
    obtain ⟨H, i1, i2⟩ := ho.inv
    have n300 := i2.2.2 _ hm
    obtain ⟨s1, s2, s3, s4, s5⟩ := (n300 : tS kP kF jT jB H σ)
    refine ⟨ho.len, ho.env, ho.me, ho.cg, ho.df, ho.fa, (302, z) :: (303, y) :: (304, z) :: H, ⟨⟨rfl, hz⟩, ⟨rfl, hy⟩, ⟨rfl, hz⟩, i1⟩, ?_⟩
    refine ⟨i2.1, fun r' R hr' j hj hq3 => i2.2.1 r' R hr' j hj (by
      have hlt := (wf_row hwf hr').1
      rw [lk_cons, if_neg (by omega), lk_cons, if_neg (by omega), lk_cons, if_neg (by omega)] at hq3
      exact hq3), fun c q => ?_⟩
    by_cases h3 : c.tg 302 = true
    · rw [hu c q 302 (Or.inl rfl) h3]
      refine ⟨fun h0 => ?_, s2, fun h => s3 (by rw [lk_cons, if_neg (by decide), lk_cons, if_neg (by decide), lk_cons, if_neg (by decide)] at h; exact h), s4, fun q t x h1 h2 h3 hun => ?_⟩
      · obtain ⟨r, a1, a2⟩ := s1 h0
        refine ⟨r, a1, fun x n hx hn => a2 x n ?_ ?_⟩
        · rw [lk_cons, if_neg (by decide), lk_cons, if_neg (by decide), lk_cons, if_neg (by decide)] at hx; exact hx
        · rw [lk_cons, if_neg (by decide), lk_cons, if_neg (by decide), lk_cons, if_neg (by decide)] at hn; exact hn
      · rw [lk_cons, if_pos rfl] at h1
        rw [lk_cons, if_neg (by decide), lk_cons, if_neg (by decide), lk_cons, if_pos rfl] at h3
        rw [← Option.some.inj h3, Option.some.inj h1]
        exact hun
    · have hn : ∀ t, t = 302 ∨ t = 303 ∨ t = 304 → c.tg t = true → False := fun t ht e => h3 (by rw [hu c q t ht e]; rfl)
      exact (hc c q).dep H _ σ σ (fun u hu2 => by
        rw [lk_cons, if_neg (fun e => hn u (Or.inl e) hu2), lk_cons, if_neg (fun e => hn u (Or.inr (Or.inl e)) hu2), lk_cons, if_neg (fun e => hn u (Or.inr (Or.inr e)) hu2)]) (fun _ _ => rfl) (i2.2.2 c q)
theorem ht26_ok (hwf : T.wf = true) (hc : ∀ c ∈ cs, CpOk T G c) (hm : ctr kP kF jT jB ∈ cs) (hu : ∀ c ∈ cs, c.tg 304 = true → c = ctr kP kF jT jB) {a : AV} {z : Int} (hz : ev ρ a = some z) (ho : Ok (Jf T G (cS cs)) s ρ σ) : Ok (Jf T G (cS cs)) (ht26 kP a s) ρ σ := by
  unfold ht26
  split
  · rename_i t x ht hx
    split
    · rename_i w hw
      cases hb : (a.isI && w.isI) && ((eqAV s w a && eqAV s x (pl s x)) && (leAV s (.c 0) x && apart s x t)) with
      | false => exact ho
      | true =>
        simp only [Bool.and_eq_true] at hb
        obtain ⟨⟨c1, c2⟩, ⟨c3, c4⟩, c5, c6⟩ := hb
        obtain ⟨H, i1, i2⟩ := ho.inv
        obtain ⟨s1, s2, s3, s4, s5⟩ := (i2.2.2 _ hm : tS kP kF jT jB H σ)
        obtain ⟨zx, x1, x2⟩ := tag_get ho i1 hx
        obtain ⟨zt, t1, t2⟩ := tag_get ho i1 ht
        obtain ⟨j', f1, f2⟩ := ho.me _ (mget_mem hw)
        have ej := eqAV_ok ho c4 x2 f1
        have ew := eqAV_ok ho c3 (me_at ho hw f1 c2) hz
        have g0 := leAV_ok ho c5 (x := 0) rfl x2
        have hne : zx ≠ zt := apart_ne ho c6 x2 t2
        have ejn : zx.toNat = j' := by omega
        refine ⟨ho.len, ho.env, ho.me, ho.cg, ho.df, ho.fa, hup 304 z H, i1.up hz, Jf_tag hwf hc (t := 304) (by decide) (fun u hu2 => lk_hup_ne hu2) i2 (fun c q e => ?_)⟩
        rw [hu c q e]
        refine ⟨fun h0 => ?_, s2, fun h => s3 (by rw [lk_hup_ne (by decide)] at h; exact h), s4, fun q t' y h1 h2 h3 hun => ?_⟩
        · obtain ⟨r, a1, a2⟩ := s1 h0
          refine ⟨r, a1, fun y n hy hn => a2 y n ?_ ?_⟩
          · rw [lk_hup_ne (by decide)] at hy; exact hy
          · rw [lk_hup_ne (by decide)] at hn; exact hn
        · rw [lk_hup_ne (by decide)] at h1 h2
          rw [lk_hup_at x1] at h3
          rw [t1] at h2
          have et := Option.some.inj h2
          have ez := Option.some.inj h3
          have hux := s5 q t' zx h1 (by rw [t1, et]) x1 hun
          have hus := un_step hux g0 (by rw [← et]; exact hne)
          rw [ejn, show Pp σ kP j' = z from ew] at hus
          rw [← ez]
          exact hus
    · exact ho
  · exact ho
end H21
end
