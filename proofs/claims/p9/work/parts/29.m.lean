noncomputable section
/-! ===== hints for things: 63, 64, 70 .. 76, 80 .. 92 ===== -/
/-- what every such hint needs of the parts: c0 is one of them, its tags are its own -/
abbrev PH (T : Jx) (G : Gl) (cs : List Cp) (c0 : Cp) : Prop := T.wf = true ∧ (∀ c ∈ cs, CpOk T G c) ∧ c0 ∈ cs ∧ ∀ c ∈ cs, c = c0 ∨ ∀ t, c0.tg t = true → c.tg t = false
section H30
variable {T : Jx} {G : Gl} {cs : List Cp} {s : Sy} {ρ : List Int} {σ : zS}
theorem ph_set {c0 : Cp} (hP : PH T G cs c0) {hl' : List (Nat × AV)} {H H' : List (Nat × Int)} (ho : Ok (Jf T G (cS cs)) s ρ σ) (hJ : Jf T G (cS cs) H σ) (hh : Hl ρ hl' H') (hl : ∀ u, c0.tg u = false → lk H' u = lk H u) (hn : c0.S H' σ) : Ok (Jf T G (cS cs)) (s.seth hl') ρ σ :=
  ⟨ho.len, ho.env, ho.me, ho.cg, ho.df, ho.fa, H', hh, Jf_part hP.1 hP.2.1 hP.2.2.2 (fun t ht => (hP.2.1 c0 hP.2.2.1).1 t ht) hl hJ hn⟩
def h63 (k j : Nat) (x : Int) (s : Sy) : Option Sy := match mget s.me k (.c (j : Int)) with
  | some w => bif w.isI then s.refd w [(x, x)] else some s
  | none => some (s.add k (.c (j : Int)) (.c x))
theorem h63_ok {k j : Nat} {x : Int} (hm : ck k j x ∈ cs) (ho : Ok (Jf T G (cS cs)) s ρ σ) : ∃ s', h63 k j x s = some s' ∧ Ok (Jf T G (cS cs)) s' ρ σ := by
  obtain ⟨H, i1, i2⟩ := ho.inv
  have hS : (σ.1 k j).toInt = x := i2.2.2 _ hm
  unfold h63
  split
  · rename_i w hw
    cases hi : w.isI with
    | false => exact ⟨s, rfl, ho⟩
    | true =>
      have e := me_at ho hw rfl hi
      exact refd_ok ho e (dom_i ho hi e) ⟨_, List.mem_cons_self .., by rw [hS]; exact Int.le_refl _, by rw [hS]; exact Int.le_refl _⟩
  · exact ⟨_, rfl, ho.addm ⟨j, rfl, Or.inl ⟨rfl, congrArg some hS.symm⟩⟩⟩
def h64 (kF jB jT : Nat) (s : Sy) : Option Sy := match mget s.me kF (.c (jT : Int)) with
  | some w => match mget s.me kF (.c (jB : Int)) with
    | some b => bif (w.isI && b.isI) && leAV s (.c 2) w then s.refd b [(1, 1)] else some s
    | none => some s
  | none => some s
theorem h64_ok {kF jB jT : Nat} (hm : cn kF jB jT ∈ cs) (ho : Ok (Jf T G (cS cs)) s ρ σ) : ∃ s', h64 kF jB jT s = some s' ∧ Ok (Jf T G (cS cs)) s' ρ σ := by
  obtain ⟨H, i1, i2⟩ := ho.inv
  have hS : (σ.1 kF jB).toInt = 1 ∨ (σ.1 kF jT).toInt ≤ 1 := i2.2.2 _ hm
  unfold h64
  split
  · rename_i w hw
    split
    · rename_i b hb
      cases hc : (w.isI && b.isI) && leAV s (.c 2) w with
      | false => exact ⟨s, rfl, ho⟩
      | true =>
        simp only [Bool.and_eq_true] at hc
        have e1 := leAV_ok ho hc.2 (x := 2) rfl (me_at ho hw rfl hc.1.1)
        have e2 := me_at ho hb rfl hc.1.2
        exact refd_ok ho e2 (dom_i ho hc.1.2 e2) ⟨_, List.mem_cons_self .., by dsimp only; omega, by dsimp only; omega⟩
    · exact ⟨s, rfl, ho⟩
  · exact ⟨s, rfl, ho⟩
/-- at a place of the rows: what they hold -/
def atI (s : Sy) (k : Nat) (a : AV) : Option AV := oth s k a
def h70 (a : AV) (n : Nat) (s : Sy) : Sy := bif (a.isI && Nat.ble n 1) && (!(isS (lk s.hl 510)) && !(isS (lk s.hl 512))) then s.seth (hset 510 a (hset 511 (.c (n : Int)) s.hl)) else s
theorem no_tag {H : List (Nat × Int)} {hl : List (Nat × AV)} (hh : Hl ρ hl H) {u : Nat} (h : (!(isS (lk hl u))) = true) : lk H u = none := by
  rcases hh.lkp (t := u) with ⟨_, q2⟩ | ⟨a, z, q1, _, _⟩
  · exact q2
  · rw [q1] at h; cases h
theorem btg_no {u : Nat} (h : btg u = false) : u ≠ 510 ∧ u ≠ 511 ∧ u ≠ 512 := ⟨fun e => (by rw [e] at h; cases h), fun e => (by rw [e] at h; cases h), fun e => (by rw [e] at h; cases h)⟩
theorem h70_ok {kP kG : Nat} (hP : PH T G cs (cb kP kG)) {a : AV} {n : Nat} {z : Int} (hz : ev ρ a = some z) (ho : Ok (Jf T G (cS cs)) s ρ σ) : Ok (Jf T G (cS cs)) (h70 a n s) ρ σ := by
  unfold h70
  cases hc : (a.isI && Nat.ble n 1) && (!(isS (lk s.hl 510)) && !(isS (lk s.hl 512))) with
  | false => exact ho
  | true =>
    simp only [Bool.and_eq_true] at hc
    obtain ⟨H, i1, i2⟩ := ho.inv
    have hn := Nat.le_of_ble_eq_true hc.1.2
    have n2 := no_tag i1 hc.2.2
    refine ph_set hP ho i2 ((i1.set (a := .c (n : Int)) (x := (n : Int)) rfl).set hz) (fun u hu => ?_) ⟨fun t x _ b i h1 h2 => ?_, fun t w _ b => ?_⟩
    · obtain ⟨u0, u1, u2⟩ := btg_no hu
      rw [lk_hset, if_neg u0, lk_hset, if_neg u1]
    · rw [lk_hset, if_neg (by decide), lk_hset, if_pos rfl] at b
      have := Option.some.inj b
      omega
    · rw [lk_hset, if_neg (by decide), lk_hset, if_neg (by decide), n2] at b
      cases b
def h76 (s : Sy) : Sy := bif isS (lk s.hl 510) && !(isS (lk s.hl 511)) then s.seth (hset 511 (.c 1) s.hl) else s
theorem h76_ok {kP kG : Nat} (hP : PH T G cs (cb kP kG)) (ho : Ok (Jf T G (cS cs)) s ρ σ) : Ok (Jf T G (cS cs)) (h76 s) ρ σ := by
  unfold h76
  cases hc : isS (lk s.hl 510) && !(isS (lk s.hl 511)) with
  | false => exact ho
  | true =>
    obtain ⟨H, i1, i2⟩ := ho.inv
    have hS : bS kP kG H σ := i2.2.2 _ hP.2.2.1
    refine ph_set hP ho i2 (i1.set (a := .c 1) (x := 1) rfl) (fun u hu => ?_) ⟨fun t x _ b i h1 h2 => ?_, fun t w a b => ?_⟩
    · rw [lk_hset, if_neg (btg_no hu).2.1]
    · rw [lk_hset, if_pos rfl] at b
      have := Option.some.inj b
      omega
    · rw [lk_hset, if_neg (by decide)] at a b
      exact hS.2 t w a b
def h75 (s : Sy) : Sy := s.seth (hdel 510 (hdel 511 (hdel 512 s.hl)))
theorem h75_ok {kP kG : Nat} (hP : PH T G cs (cb kP kG)) (ho : Ok (Jf T G (cS cs)) s ρ σ) : Ok (Jf T G (cS cs)) (h75 s) ρ σ := by
  obtain ⟨H, i1, i2⟩ := ho.inv
  refine ph_set hP ho i2 ((i1.del).del).del (fun u hu => ?_) ⟨fun t x a => ?_, fun t w a => ?_⟩
  · obtain ⟨u0, u1, u2⟩ := btg_no hu
    rw [lk_hdel, if_neg u0, lk_hdel, if_neg u1, lk_hdel, if_neg u2]
  · rw [lk_hdel, if_pos rfl] at a; cases a
  · rw [lk_hdel, if_pos rfl] at a; cases a
def h74 (s : Sy) : Option Sy := match lk s.hl 510 with
  | some _ => match lk s.hl 511 with
    | some x => match lk s.hl 512 with
      | some w => bif leAV s (shA w 1) x then none else some s
      | none => some s
    | none => some s
  | none => some s
theorem h74_ok {kP kG : Nat} (hm : cb kP kG ∈ cs) (ho : Ok (Jf T G (cS cs)) s ρ σ) : ∃ s', h74 s = some s' ∧ Ok (Jf T G (cS cs)) s' ρ σ := by
  obtain ⟨H, i1, i2⟩ := ho.inv
  have hS : bS kP kG H σ := i2.2.2 _ hm
  unfold h74
  split
  · rename_i a0 q0
    split
    · rename_i x qx
      split
      · rename_i w qw
        cases hc : leAV s (shA w 1) x with
        | false => exact ⟨s, rfl, ho⟩
        | true =>
          obtain ⟨z0, r0, _⟩ := tag_get ho i1 q0
          obtain ⟨zx, rx, ex⟩ := tag_get ho i1 qx
          obtain ⟨zw, rw', ew⟩ := tag_get ho i1 qw
          have e := leAV_ok ho hc (shA_ev ew) ex
          obtain ⟨i, c1, c2, c3, c4⟩ := hS.2 z0 zw r0 rw'
          exact absurd ⟨c3, c4⟩ (hS.1 z0 zx r0 rx i c2 (by omega))
      · exact ⟨s, rfl, ho⟩
    · exact ⟨s, rfl, ho⟩
  · exact ⟨s, rfl, ho⟩
/-- 71: one further -/
def h71 (kP kG : Nat) (a : AV) (s : Sy) : Sy := match lk s.hl 510 with
  | some t => match lk s.hl 511 with
    | some x => bif eqA s x a && (leAV s a (.c 0) || ((match oth s kG a with
        | some g => leAV s (.c 1) g
        | none => false) || (match oth s kP a with
        | some v => leAV s (shA v 1) t || leAV s (shA t 1) v
        | none => false))) then s.seth (hup 511 (shA a 1) s.hl) else s
    | none => s
  | none => s
theorem h71_ok {kP kG : Nat} (hP : PH T G cs (cb kP kG)) {a : AV} {j : Nat} (hz : ev ρ a = some (j : Int)) (ho : Ok (Jf T G (cS cs)) s ρ σ) : Ok (Jf T G (cS cs)) (h71 kP kG a s) ρ σ := by
  unfold h71
  split
  · rename_i t qt
    split
    · rename_i x qx
      cases hc : eqA s x a && (leAV s a (.c 0) || ((match oth s kG a with
        | some g => leAV s (.c 1) g
        | none => false) || (match oth s kP a with
        | some v => leAV s (shA v 1) t || leAV s (shA t 1) v
        | none => false))) with
      | false => exact ho
      | true =>
        obtain ⟨H, i1, i2⟩ := ho.inv
        have hS : bS kP kG H σ := i2.2.2 _ hP.2.2.1
        obtain ⟨zt, rt, et⟩ := tag_get ho i1 qt
        obtain ⟨zx, rx, ex⟩ := tag_get ho i1 qx
        simp only [Bool.and_eq_true, Bool.or_eq_true] at hc
        have exa := eqA_ok ho hc.1 ex hz
        have new : 1 ≤ j → ¬ ((σ.1 kP j).toInt = zt ∧ (σ.1 kG j).toInt ≤ 0) := by
          intro hj
          rcases hc.2 with h | h | h
          · have := leAV_ok ho h hz (y := 0) rfl
            omega
          · split at h
            · rename_i g hg
              have := leAV_ok ho h (x := 1) rfl (oth_ok ho hg hz).2
              omega
            · cases h
          · split at h
            · rename_i v hv
              have ev' := (oth_ok ho hv hz).2
              rw [Bool.or_eq_true] at h
              rcases h with h | h
              · have := leAV_ok ho h (shA_ev ev') et
                omega
              · have := leAV_ok ho h (shA_ev et) ev'
                omega
            · cases h
        refine ph_set hP ho i2 (i1.up (shA_ev hz)) (fun u hu => lk_hup_ne (btg_no hu).2.1) ⟨fun t' x' b c i h1 h2 => ?_, fun t' w b c => ?_⟩
        · rw [lk_hup_ne (by decide), rt] at b
          rw [lk_hup_at rx] at c
          have eb := Option.some.inj b
          have ec := Option.some.inj c
          by_cases e : i = j
          · rw [e, ← eb]; exact new (by omega)
          · exact hS.1 t' zx (by rw [rt, eb]) rx i h1 (by omega)
        · rw [lk_hup_ne (by decide)] at b c
          exact hS.2 t' w b c
    · exact ho
  · exact ho
/-- 72: a witness; 73: a find below 511 -/
def h72c (kP kG : Nat) (a t : AV) (s : Sy) : Bool := (match oth s kP a with
  | some v => eqA s v t
  | none => false) && ((match oth s kG a with
  | some g => leAV s g (.c 0)
  | none => false) && leAV s (.c 1) a)
theorem h72c_ok {kP kG : Nat} {a t : AV} {j : Nat} {zt : Int} (ho : Ok (Jf T G (cS cs)) s ρ σ) (hz : ev ρ a = some (j : Int)) (ht : ev ρ t = some zt) (h : h72c kP kG a t s = true) : 1 ≤ j ∧ (σ.1 kP j).toInt = zt ∧ (σ.1 kG j).toInt ≤ 0 := by
  unfold h72c at h
  simp only [Bool.and_eq_true] at h
  obtain ⟨h1, h2, h3⟩ := h
  have g := leAV_ok ho h3 (x := 1) rfl hz
  refine ⟨by omega, ?_, ?_⟩
  · split at h1
    · rename_i v hv
      exact eqA_ok ho h1 (oth_ok ho hv hz).2 ht
    · cases h1
  · split at h2
    · rename_i g' hg
      exact leAV_ok ho h2 (oth_ok ho hg hz).2 (y := 0) rfl
    · cases h2
def h72 (kP kG : Nat) (a : AV) (s : Sy) : Sy := match lk s.hl 510 with
  | some t => bif h72c kP kG a t s then s.seth (hdel 511 (hset 512 a s.hl)) else s
  | none => s
theorem h72_ok {kP kG : Nat} (hP : PH T G cs (cb kP kG)) {a : AV} {j : Nat} (hz : ev ρ a = some (j : Int)) (ho : Ok (Jf T G (cS cs)) s ρ σ) : Ok (Jf T G (cS cs)) (h72 kP kG a s) ρ σ := by
  unfold h72
  split
  · rename_i t qt
    cases hc : h72c kP kG a t s with
    | false => exact ho
    | true =>
      obtain ⟨H, i1, i2⟩ := ho.inv
      obtain ⟨zt, rt, et⟩ := tag_get ho i1 qt
      obtain ⟨g1, g2, g3⟩ := h72c_ok ho hz et hc
      refine ph_set hP ho i2 (i1.set hz).del (fun u hu => ?_) ⟨fun t' x' _ c => ?_, fun t' w b c => ?_⟩
      · obtain ⟨u0, u1, u2⟩ := btg_no hu
        rw [lk_hdel, if_neg u1, lk_hset, if_neg u2]
      · rw [lk_hdel, if_pos rfl] at c; cases c
      · rw [lk_hdel, if_neg (by decide), lk_hset, if_neg (by decide), rt] at b
        rw [lk_hdel, if_neg (by decide), lk_hset, if_pos rfl] at c
        exact ⟨j, (Option.some.inj c).symm, g1, by rw [g2]; exact Option.some.inj b, g3⟩
  · exact ho
def h73 (kP kG : Nat) (a : AV) (s : Sy) : Option Sy := match lk s.hl 510 with
  | some t => match lk s.hl 511 with
    | some x => bif h72c kP kG a t s && leAV s (shA a 1) x then none else some s
    | none => some s
  | none => some s
theorem h73_ok {kP kG : Nat} (hm : cb kP kG ∈ cs) {a : AV} {j : Nat} (hz : ev ρ a = some (j : Int)) (ho : Ok (Jf T G (cS cs)) s ρ σ) : ∃ s', h73 kP kG a s = some s' ∧ Ok (Jf T G (cS cs)) s' ρ σ := by
  obtain ⟨H, i1, i2⟩ := ho.inv
  have hS : bS kP kG H σ := i2.2.2 _ hm
  unfold h73
  split
  · rename_i t qt
    split
    · rename_i x qx
      cases hc : h72c kP kG a t s && leAV s (shA a 1) x with
      | false => exact ⟨s, rfl, ho⟩
      | true =>
        rw [Bool.and_eq_true] at hc
        obtain ⟨zt, rt, et⟩ := tag_get ho i1 qt
        obtain ⟨zx, rx, ex⟩ := tag_get ho i1 qx
        obtain ⟨g1, g2, g3⟩ := h72c_ok ho hz et hc.1
        have e := leAV_ok ho hc.2 (shA_ev hz) ex
        exact absurd ⟨g2, g3⟩ (hS.1 zt zx rt rx j g1 (by omega))
    · exact ⟨s, rfl, ho⟩
  · exact ⟨s, rfl, ho⟩
end H30
/-! ===== chains ===== -/
theorem cnt_self {r : Nat → Nat} {p : Nat} : ∀ n : Nat, p < n → cnt r (r p) n + 1 ≤ n
  | 0, h => absurd h (Nat.not_lt_zero _)
  | n + 1, h => by
    unfold cnt
    by_cases e : p = n
    · subst e
      have := cnt_le (r := r) (b := r p) p
      rw [if_neg (Nat.lt_irrefl _)]
      omega
    · have := cnt_self (r := r) (p := p) n (by omega)
      split <;> omega
theorem rk40 {r : Nat → Nat} {x : Int} (h0 : 0 ≤ x) (h1 : x ≤ 39) : rk r x ≤ 40 := by
  unfold rk
  rw [if_pos h0]
  have := cnt_self (r := r) (p := x.toNat) 40 (by omega)
  omega
theorem up_end {P : Nat → Int} : ∀ (n : Nat) (y : Int), up P (n + 1) y = (if 0 ≤ up P n y then P (up P n y).toNat else up P n y)
  | 0, y => rfl
  | n + 1, y => by
    show up P (n + 1) (if 0 ≤ y then P y.toNat else y) = _
    rw [up_end n]
    rfl
theorem un_fwd {P : Nat → Int} {x q : Int} (h : Un P x q) (h0 : 0 ≤ x) : Un P (P x.toNat) q := by
  obtain ⟨n, hn⟩ := h
  refine ⟨n + 1, ?_⟩
  rw [up_end, hn, if_pos h0]
section H31
variable {T : Jx} {G : Gl} {cs : List Cp} {s : Sy} {ρ : List Int} {σ : zS} {kP kF jT jB : Nat}
def h80 (kF jB : Nat) (a : AV) (s : Sy) : Sy := bif begun kF jB s s.hl && ((a.isI && (leAV s (.c 0) a && leAV s a (.c 39))) && (!(isS (lk s.hl 300)) && !(isS (lk s.hl 301)))) then (s.new [(0, 40)]).seth ((300, a) :: (301, .i s.nx 0) :: s.hl) else s
theorem h80_ok (hwf : T.wf = true) (hc : ∀ c ∈ cs, CpOk T G c) (hm : ctr kP kF jT jB ∈ cs) (hu : ∀ c ∈ cs, ∀ t, t = 300 ∨ t = 301 → c.tg t = true → c = ctr kP kF jT jB) {a : AV} {z : Int} (hz : ev ρ a = some z) (ho : Ok (Jf T G (cS cs)) s ρ σ) : ∃ ρ', Pre ρ ρ' ∧ Ok (Jf T G (cS cs)) (h80 kF jB a s) ρ' σ := by
  unfold h80
  cases hb : begun kF jB s s.hl && ((a.isI && (leAV s (.c 0) a && leAV s a (.c 39))) && (!(isS (lk s.hl 300)) && !(isS (lk s.hl 301)))) with
  | false => exact ⟨ρ, Pre.rf, ho⟩
  | true =>
    simp only [Bool.and_eq_true] at hb
    obtain ⟨H, i1, i2⟩ := ho.inv
    obtain ⟨b1, b2⟩ := begun_ok ho i1 hb.1
    have n300 := lk_no i1 hb.2.2.1
    have hS : tS kP kF jT jB H σ := i2.2.2 _ hm
    obtain ⟨s1, s2, s3, s4, s5⟩ := hS
    obtain ⟨r, a1, _⟩ := s1 (s3 b1 b2)
    have g1 := leAV_ok ho hb.2.1.2.1 (x := 0) rfl hz
    have g2 := leAV_ok ho hb.2.1.2.2 hz (y := 39) rfl
    have hr := rk_in (r := r) (x := z)
    have hq := ho.new (x := rk r z) (d := [(0, 40)]) ⟨_, List.mem_cons_self .., hr.1, rk40 g1 g2⟩
    have hp : Pre ρ (ρ ++ [rk r z]) := ⟨_, rfl⟩
    refine ⟨ρ ++ [rk r z], hp, hq.len, hq.env, hq.me, hq.cg, hq.df, hq.fa, (300, z) :: (301, rk r z) :: H, ⟨⟨rfl, ev.mono hp hz⟩, ⟨rfl, ho.new_i⟩, i1.mono hp⟩, ?_⟩
    have k1 : Jf T G (cS cs) ((301, rk r z) :: H) σ := Jf_tag hwf hc (t := 301) (by decide) (fun u hu2 => by rw [lk_cons, if_neg hu2]) i2 (fun c q e => by
      rw [hu c q 301 (Or.inr rfl) e]
      refine ⟨fun _ => ⟨r, a1, fun x n hx => ?_⟩, s2, fun h => s3 (by rw [lk_cons, if_neg (by decide)] at h; exact h), s4, fun q t x h1 h2 h3 => ?_⟩
      · rw [lk_cons, if_neg (by decide), n300] at hx; cases hx
      · rw [lk_cons, if_neg (by decide)] at h1 h2 h3
        exact s5 q t x h1 h2 h3)
    refine Jf_tag hwf hc (t := 300) (by decide) (fun u hu2 => by rw [lk_cons, if_neg hu2]) k1 (fun c q e => ?_)
    rw [hu c q 300 (Or.inl rfl) e]
    refine ⟨fun _ => ⟨r, a1, fun x n hx hn => ?_⟩, s2, fun h => s3 (by rw [lk_cons, if_neg (by decide), lk_cons, if_neg (by decide)] at h; exact h), s4, fun q t x h1 h2 h3 => ?_⟩
    · rw [lk_cons, if_pos rfl] at hx
      rw [lk_cons, if_neg (by decide), lk_cons, if_pos rfl] at hn
      rw [← Option.some.inj hx, ← Option.some.inj hn]
    · rw [lk_cons, if_neg (by decide), lk_cons, if_neg (by decide)] at h1 h2 h3
      exact s5 q t x h1 h2 h3
def h81 (kF jB : Nat) (s : Sy) : Option Sy := match lk s.hl 300 with
  | some x => match lk s.hl 301 with
    | some n => bif begun kF jB s s.hl && (isS (edom s x) && leAV s n (.c 0)) then s.refd x [(dlo (dom s x), -1)] else some s
    | none => some s
  | none => some s
theorem h81_ok (hm : ctr kP kF jT jB ∈ cs) (ho : Ok (Jf T G (cS cs)) s ρ σ) : ∃ s', h81 kF jB s = some s' ∧ Ok (Jf T G (cS cs)) s' ρ σ := by
  unfold h81
  split
  · rename_i x qx
    split
    · rename_i n qn
      cases hb : begun kF jB s s.hl && (isS (edom s x) && leAV s n (.c 0)) with
      | false => exact ⟨s, rfl, ho⟩
      | true =>
        simp only [Bool.and_eq_true] at hb
        obtain ⟨H, i1, i2⟩ := ho.inv
        obtain ⟨b1, b2⟩ := begun_ok ho i1 hb.1
        obtain ⟨s1, s2, s3, s4, s5⟩ := (i2.2.2 _ hm : tS kP kF jT jB H σ)
        obtain ⟨r, a1, a2⟩ := s1 (s3 b1 b2)
        obtain ⟨zx, x1, x2⟩ := tag_get ho i1 qx
        obtain ⟨zn, n1, n2⟩ := tag_get ho i1 qn
        have e := a2 zx zn x1 n1
        have g := leAV_ok ho hb.2.2 n2 (y := 0) rfl
        have hneg : zx < 0 := by
          rw [e] at g
          unfold rk at g
          split at g <;> omega
        have hd := edom_ok' ho hb.2.1 x2
        exact refd_ok ho x2 hd ⟨_, List.mem_cons_self .., dlo_le hd, by dsimp only; omega⟩
    · exact ⟨s, rfl, ho⟩
  · exact ⟨s, rfl, ho⟩
def h82 (kP kF jB : Nat) (s : Sy) : Option Sy := bif begun kF jB s s.hl then (match mget s.me kP (.c ((0 : Nat) : Int)) with
  | some w => bif w.isI then s.refd w [(-4, -4)] else some s
  | none => some (s.add kP (.c ((0 : Nat) : Int)) (.c (-4)))) else some s
theorem h82_ok (hm : ctr kP kF jT jB ∈ cs) (h4 : Bd T G σ → Pp σ kP 0 < 0 → Pp σ kP 0 = -4) (ho : Ok (Jf T G (cS cs)) s ρ σ) : ∃ s', h82 kP kF jB s = some s' ∧ Ok (Jf T G (cS cs)) s' ρ σ := by
  unfold h82
  cases hb : begun kF jB s s.hl with
  | false => exact ⟨s, rfl, ho⟩
  | true =>
    obtain ⟨H, i1, i2⟩ := ho.inv
    obtain ⟨b1, b2⟩ := begun_ok ho i1 hb
    obtain ⟨s1, s2, s3, s4, s5⟩ := (i2.2.2 _ hm : tS kP kF jT jB H σ)
    have e : (σ.1 kP 0).toInt = -4 := h4 i2.1 (s3 b1 b2)
    simp only [cond_true]
    split
    · rename_i w hw
      cases hi : w.isI with
      | false => exact ⟨s, rfl, ho⟩
      | true =>
        have g := me_at ho hw rfl hi
        exact refd_ok ho g (dom_i ho hi g) ⟨_, List.mem_cons_self .., by rw [e]; exact Int.le_refl _, by rw [e]; exact Int.le_refl _⟩
    · exact ⟨_, rfl, ho.addm ⟨0, rfl, Or.inl ⟨rfl, congrArg some e.symm⟩⟩⟩
theorem otg_no {u : Nat} (h : otg u = false) : ¬ (520 ≤ u ∧ u ≤ 525) := fun q => by
  have : otg u = true := by
    show (Nat.ble 520 u && Nat.ble u 525) = true
    rw [Bool.and_eq_true]
    exact ⟨Nat.ble_eq_true_of_le q.1, Nat.ble_eq_true_of_le q.2⟩
  rw [this] at h
  cases h
def h83 (a : AV) (s : Sy) : Sy := bif a.isI && (!(isS (lk s.hl 520)) && !(isS (lk s.hl 521))) then s.seth (hset 520 a (hset 521 a s.hl)) else s
theorem h83_ok (hP : PH T G cs (co kP)) {a : AV} {z : Int} (hz : ev ρ a = some z) (ho : Ok (Jf T G (cS cs)) s ρ σ) : Ok (Jf T G (cS cs)) (h83 a s) ρ σ := by
  unfold h83
  cases hb : a.isI && (!(isS (lk s.hl 520)) && !(isS (lk s.hl 521))) with
  | false => exact ho
  | true =>
    obtain ⟨H, i1, i2⟩ := ho.inv
    obtain ⟨o1, o2, o3⟩ := (i2.2.2 _ hP.2.2.1 : oS kP H σ)
    refine ph_set hP ho i2 ((i1.set hz).set hz) (fun u hu => ?_) ⟨fun q x b c => ?_, fun t x b c => ?_, fun t x b c => ?_⟩
    · have := otg_no hu
      rw [lk_hset, if_neg (by omega), lk_hset, if_neg (by omega)]
    · rw [lk_hset, if_pos rfl] at b
      rw [lk_hset, if_neg (by decide), lk_hset, if_pos rfl] at c
      rw [← Option.some.inj b, ← Option.some.inj c]
      exact ⟨0, rfl⟩
    · rw [lk_hset, if_neg (by decide), lk_hset, if_neg (by decide)] at b c
      exact o2 t x b c
    · rw [lk_hset, if_neg (by decide), lk_hset, if_neg (by decide)] at b c
      exact o3 t x b c
/-- from x one step up is a -/
def stp9 (kP : Nat) (x a : AV) (s : Sy) : Bool := match mget s.me kP (pl s x) with
  | some w => (w.isI && eqA s w a) && (eqA s x (pl s x) && leAV s (.c 0) x)
  | none => false
theorem stp9_ok {J : Jt} {x a : AV} {zx z : Int} (ho : Ok J s ρ σ) (hx : ev ρ x = some zx) (ha : ev ρ a = some z) (h : stp9 kP x a s = true) : 0 ≤ zx ∧ Pp σ kP zx.toNat = z := by
  unfold stp9 at h
  split at h
  · rename_i w hw
    simp only [Bool.and_eq_true] at h
    obtain ⟨⟨h1, h2⟩, h3, h4⟩ := h
    obtain ⟨j, f1, _⟩ := ho.me _ (mget_mem hw)
    have e := eqA_ok ho h3 hx f1
    have g := leAV_ok ho h4 (x := 0) rfl hx
    have ew := eqA_ok ho h2 (me_at ho hw f1 h1) ha
    have ej : zx.toNat = j := by omega
    rw [ej]
    exact ⟨g, ew⟩
  · cases h
def h84 (kP : Nat) (a : AV) (s : Sy) : Sy := match lk s.hl 521 with
  | some x => bif stp9 kP x a s then s.seth (hup 521 a s.hl) else s
  | none => s
theorem h84_ok (hP : PH T G cs (co kP)) {a : AV} {z : Int} (hz : ev ρ a = some z) (ho : Ok (Jf T G (cS cs)) s ρ σ) : Ok (Jf T G (cS cs)) (h84 kP a s) ρ σ := by
  unfold h84
  split
  · rename_i x qx
    cases hb : stp9 kP x a s with
    | false => exact ho
    | true =>
      obtain ⟨H, i1, i2⟩ := ho.inv
      obtain ⟨o1, o2, o3⟩ := (i2.2.2 _ hP.2.2.1 : oS kP H σ)
      obtain ⟨zx, x1, x2⟩ := tag_get ho i1 qx
      obtain ⟨g0, g1⟩ := stp9_ok ho x2 hz hb
      refine ph_set hP ho i2 (i1.up hz) (fun u hu => lk_hup_ne (fun e => otg_no hu (by omega))) ⟨fun q y b c => ?_, fun t y b c => ?_, fun t y b c => ?_⟩
      · rw [lk_hup_ne (by decide)] at b
        rw [lk_hup_at x1] at c
        rw [← Option.some.inj c, ← g1]
        exact un_fwd (o1 q zx b x1) g0
      · rw [lk_hup_ne (by decide)] at b c
        exact o2 t y b c
      · rw [lk_hup_ne (by decide)] at b c
        exact o3 t y b c
  · exact ho
def h87 (kP : Nat) (a : AV) (s : Sy) : Sy := match lk s.hl 522 with
  | some t => match lk s.hl 523 with
    | some x => bif stp9 kP x a s && (leAV s (shA x 1) t || leAV s (shA t 1) x) then s.seth (hup 523 a s.hl) else s
    | none => s
  | none => s
theorem h87_ok (hP : PH T G cs (co kP)) {a : AV} {z : Int} (hz : ev ρ a = some z) (ho : Ok (Jf T G (cS cs)) s ρ σ) : Ok (Jf T G (cS cs)) (h87 kP a s) ρ σ := by
  unfold h87
  split
  · rename_i t qt
    split
    · rename_i x qx
      cases hb : stp9 kP x a s && (leAV s (shA x 1) t || leAV s (shA t 1) x) with
      | false => exact ho
      | true =>
        rw [Bool.and_eq_true, Bool.or_eq_true] at hb
        obtain ⟨H, i1, i2⟩ := ho.inv
        obtain ⟨o1, o2, o3⟩ := (i2.2.2 _ hP.2.2.1 : oS kP H σ)
        obtain ⟨zx, x1, x2⟩ := tag_get ho i1 qx
        obtain ⟨zt, t1, t2⟩ := tag_get ho i1 qt
        obtain ⟨g0, g1⟩ := stp9_ok ho x2 hz hb.1
        have hne : zx ≠ zt := by
          rcases hb.2 with h | h
          · have := leAV_ok ho h (shA_ev x2) t2
            omega
          · have := leAV_ok ho h (shA_ev t2) x2
            omega
        refine ph_set hP ho i2 (i1.up hz) (fun u hu => lk_hup_ne (fun e => otg_no hu (by omega))) ⟨fun q y b c => ?_, fun t' y b c => ?_, fun t' y b c => ?_⟩
        · rw [lk_hup_ne (by decide)] at b c
          exact o1 q y b c
        · rw [lk_hup_ne (by decide), t1] at b
          rw [lk_hup_at x1] at c
          rw [← Option.some.inj c, ← Option.some.inj b, ← g1]
          exact un_step (o2 zt zx t1 x1) g0 hne
        · rw [lk_hup_ne (by decide)] at b c
          exact o3 t' y b c
    · exact ho
  · exact ho
def h88 (kP : Nat) (a : AV) (s : Sy) : Sy := match lk s.hl 524 with
  | some _ => match lk s.hl 525 with
    | some x => bif stp9 kP x a s then s.seth (hup 525 a s.hl) else s
    | none => s
  | none => s
theorem h88_ok (hP : PH T G cs (co kP)) {a : AV} {z : Int} (hz : ev ρ a = some z) (ho : Ok (Jf T G (cS cs)) s ρ σ) : Ok (Jf T G (cS cs)) (h88 kP a s) ρ σ := by
  unfold h88
  split
  · rename_i t qt
    split
    · rename_i x qx
      cases hb : stp9 kP x a s with
      | false => exact ho
      | true =>
        obtain ⟨H, i1, i2⟩ := ho.inv
        obtain ⟨o1, o2, o3⟩ := (i2.2.2 _ hP.2.2.1 : oS kP H σ)
        obtain ⟨zx, x1, x2⟩ := tag_get ho i1 qx
        obtain ⟨g0, g1⟩ := stp9_ok ho x2 hz hb
        refine ph_set hP ho i2 (i1.up hz) (fun u hu => lk_hup_ne (fun e => otg_no hu (by omega))) ⟨fun q y b c => ?_, fun t' y b c => ?_, fun t' y b c => ?_⟩
        · rw [lk_hup_ne (by decide)] at b c
          exact o1 q y b c
        · rw [lk_hup_ne (by decide)] at b c
          exact o2 t' y b c
        · rw [lk_hup_ne (by decide)] at b
          rw [lk_hup_at x1] at c
          rw [← Option.some.inj c, ← g1]
          exact fun h => o3 t' zx b x1 (un_back g0 h)
    · exact ho
  · exact ho
def h85 (s : Sy) : Sy := match lk s.hl 520 with
  | some q => match lk s.hl 521 with
    | some x => s.seth (hset 522 x (hset 523 q (hdel 520 (hdel 521 s.hl))))
    | none => s
  | none => s
theorem h85_ok (hP : PH T G cs (co kP)) (ho : Ok (Jf T G (cS cs)) s ρ σ) : Ok (Jf T G (cS cs)) (h85 s) ρ σ := by
  unfold h85
  split
  · rename_i q qq
    split
    · rename_i x qx
      obtain ⟨H, i1, i2⟩ := ho.inv
      obtain ⟨o1, o2, o3⟩ := (i2.2.2 _ hP.2.2.1 : oS kP H σ)
      obtain ⟨zx, x1, x2⟩ := tag_get ho i1 qx
      obtain ⟨zq, q1, q2⟩ := tag_get ho i1 qq
      refine ph_set hP ho i2 ((((i1.del).del).set q2).set x2) (fun u hu => ?_) ⟨fun q' y b c => ?_, fun t y b c => ?_, fun t y b c => ?_⟩
      · have := otg_no hu
        rw [lk_hset, if_neg (by omega), lk_hset, if_neg (by omega), lk_hdel, if_neg (by omega), lk_hdel, if_neg (by omega)]
      · rw [lk_hset, if_neg (by decide), lk_hset, if_neg (by decide), lk_hdel, if_pos rfl] at b
        cases b
      · rw [lk_hset, if_pos rfl] at b
        rw [lk_hset, if_neg (by decide), lk_hset, if_pos rfl] at c
        rw [← Option.some.inj b, ← Option.some.inj c]
        exact o1 zq zx q1 x1
      · rw [lk_hset, if_neg (by decide), lk_hset, if_neg (by decide), lk_hdel, if_neg (by decide), lk_hdel, if_neg (by decide)] at b c
        exact o3 t y b c
    · exact ho
  · exact ho
def h86 (s : Sy) : Sy := match lk s.hl 302 with
  | some q => match lk s.hl 303 with
    | some t => match lk s.hl 304 with
      | some x => bif leAV s x (.c (-1)) && leAV s (.c 0) t then s.seth (hset 524 t (hset 525 q (hdel 520 (hdel 521 s.hl)))) else s
      | none => s
    | none => s
  | none => s
theorem h86_ok (hP : PH T G cs (co kP)) (hm : ctr kP kF jT jB ∈ cs) (ho : Ok (Jf T G (cS cs)) s ρ σ) : Ok (Jf T G (cS cs)) (h86 s) ρ σ := by
  unfold h86
  split
  · rename_i q qq
    split
    · rename_i t qt
      split
      · rename_i x qx
        cases hb : leAV s x (.c (-1)) && leAV s (.c 0) t with
        | false => exact ho
        | true =>
          rw [Bool.and_eq_true] at hb
          obtain ⟨H, i1, i2⟩ := ho.inv
          obtain ⟨o1, o2, o3⟩ := (i2.2.2 _ hP.2.2.1 : oS kP H σ)
          obtain ⟨s1, s2, s3, s4, s5⟩ := (i2.2.2 _ hm : tS kP kF jT jB H σ)
          obtain ⟨zx, x1, x2⟩ := tag_get ho i1 qx
          obtain ⟨zq, q1, q2⟩ := tag_get ho i1 qq
          obtain ⟨zt, t1, t2⟩ := tag_get ho i1 qt
          have g1 := leAV_ok ho hb.1 x2 (y := -1) rfl
          have g2 := leAV_ok ho hb.2 (x := 0) rfl t2
          refine ph_set hP ho i2 ((((i1.del).del).set q2).set t2) (fun u hu => ?_) ⟨fun q' y b c => ?_, fun t' y b c => ?_, fun t' y b c => ?_⟩
          · have := otg_no hu
            rw [lk_hset, if_neg (by omega), lk_hset, if_neg (by omega), lk_hdel, if_neg (by omega), lk_hdel, if_neg (by omega)]
          · rw [lk_hset, if_neg (by decide), lk_hset, if_neg (by decide), lk_hdel, if_pos rfl] at b
            cases b
          · rw [lk_hset, if_neg (by decide), lk_hset, if_neg (by decide), lk_hdel, if_neg (by decide), lk_hdel, if_neg (by decide)] at b c
            exact o2 t' y b c
          · rw [lk_hset, if_pos rfl] at b
            rw [lk_hset, if_neg (by decide), lk_hset, if_pos rfl] at c
            rw [← Option.some.inj b, ← Option.some.inj c]
            exact fun h => un_neg (by omega) g2 (s5 zq zt zx q1 t1 x1 h)
      · exact ho
    · exact ho
  · exact ho
def h89 (s : Sy) : Option Sy := match lk s.hl 524 with
  | some t => match lk s.hl 525 with
    | some x => bif eqA s t x then none else some s
    | none => some s
  | none => some s
theorem h89_ok (hm : co kP ∈ cs) (ho : Ok (Jf T G (cS cs)) s ρ σ) : ∃ s', h89 s = some s' ∧ Ok (Jf T G (cS cs)) s' ρ σ := by
  unfold h89
  split
  · rename_i t qt
    split
    · rename_i x qx
      cases hb : eqA s t x with
      | false => exact ⟨s, rfl, ho⟩
      | true =>
        obtain ⟨H, i1, i2⟩ := ho.inv
        obtain ⟨o1, o2, o3⟩ := (i2.2.2 _ hm : oS kP H σ)
        obtain ⟨zx, x1, x2⟩ := tag_get ho i1 qx
        obtain ⟨zt, t1, t2⟩ := tag_get ho i1 qt
        have e := eqA_ok ho hb t2 x2
        exact absurd (⟨0, e.symm⟩ : Un (Pp σ kP) zt zx) (o3 zt zx t1 x1)
    · exact ⟨s, rfl, ho⟩
  · exact ⟨s, rfl, ho⟩
def h90 (s : Sy) : Option Sy := match lk s.hl 522 with
  | some t => match lk s.hl 523 with
    | some x => bif leAV s x (.c (-1)) && leAV s (.c 0) t then none else some s
    | none => some s
  | none => some s
theorem h90_ok (hm : co kP ∈ cs) (ho : Ok (Jf T G (cS cs)) s ρ σ) : ∃ s', h90 s = some s' ∧ Ok (Jf T G (cS cs)) s' ρ σ := by
  unfold h90
  split
  · rename_i t qt
    split
    · rename_i x qx
      cases hb : leAV s x (.c (-1)) && leAV s (.c 0) t with
      | false => exact ⟨s, rfl, ho⟩
      | true =>
        rw [Bool.and_eq_true] at hb
        obtain ⟨H, i1, i2⟩ := ho.inv
        obtain ⟨o1, o2, o3⟩ := (i2.2.2 _ hm : oS kP H σ)
        obtain ⟨zx, x1, x2⟩ := tag_get ho i1 qx
        obtain ⟨zt, t1, t2⟩ := tag_get ho i1 qt
        have g1 := leAV_ok ho hb.1 x2 (y := -1) rfl
        have g2 := leAV_ok ho hb.2 (x := 0) rfl t2
        exact absurd (o2 zt zx t1 x1) (un_neg (by omega) g2)
    · exact ⟨s, rfl, ho⟩
  · exact ⟨s, rfl, ho⟩
def h92 (s : Sy) : Sy := s.seth (hdel 520 (hdel 521 (hdel 522 (hdel 523 (hdel 524 (hdel 525 s.hl))))))
theorem h92_ok (hP : PH T G cs (co kP)) (ho : Ok (Jf T G (cS cs)) s ρ σ) : Ok (Jf T G (cS cs)) (h92 s) ρ σ := by
  obtain ⟨H, i1, i2⟩ := ho.inv
  refine ph_set hP ho i2 ((((((i1.del).del).del).del).del).del) (fun u hu => ?_) ⟨fun q x b => ?_, fun t x b => ?_, fun t x b => ?_⟩
  · have := otg_no hu
    rw [lk_hdel, if_neg (by omega), lk_hdel, if_neg (by omega), lk_hdel, if_neg (by omega), lk_hdel, if_neg (by omega), lk_hdel, if_neg (by omega), lk_hdel, if_neg (by omega)]
  · rw [lk_hdel, if_pos rfl] at b; cases b
  · rw [lk_hdel, if_neg (by decide), lk_hdel, if_neg (by decide), lk_hdel, if_pos rfl] at b; cases b
  · rw [lk_hdel, if_neg (by decide), lk_hdel, if_neg (by decide), lk_hdel, if_neg (by decide), lk_hdel, if_neg (by decide), lk_hdel, if_pos rfl] at b; cases b
end H31
end
