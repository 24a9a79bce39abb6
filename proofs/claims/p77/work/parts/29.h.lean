noncomputable section
/-! ===== WHAT ELSE HOLDS, 25: where tokens start ===== -/
/-- behind token i: at z, or later -/
def uN (kK kS kV : Nat) (σ : zS) (i : Nat) (z : Int) : Prop := (σ.1 kS i).toInt + 1 ≤ z ∧ ((σ.1 kK i).toInt = 1 → (σ.2 kV i).toInt ≤ z)
/-- tags: 306 how many tokens there are, 307 where the next may start -/
def uS (kK kS kV : Nat) (H : List (Nat × Int)) (σ : zS) : Prop := (∀ T, lk H 306 = some T → ∀ i : Nat, (i : Int) + 1 < T → uN kK kS kV σ i (σ.1 kS (i + 1)).toInt) ∧ (∀ T z, lk H 306 = some T → lk H 307 = some z → ∀ i : Nat, (i : Int) + 1 = T → uN kK kS kV σ i z)
def uw (s : Sy) (hl : List (Nat × AV)) (_ : Nat) (p _ : AV) : Option (List (Nat × AV)) := match lk hl 306 with
  | some T => bif leAV s T p then some hl else none
  | none => some hl
def utg (u : Nat) : Bool := Nat.beq u 306 || Nat.beq u 307
def cu (kK kS kV : Nat) : Cp := (utg, (uS kK kS kV, (fun q => Nat.beq q kK || Nat.beq q kS, (uw, (fun q => Nat.beq q kV, uw)))))
theorem utg_off {u : Nat} (h : utg u = false) : u ≠ 306 ∧ u ≠ 307 := by
  have h : (Nat.beq u 306 || Nat.beq u 307) = false := h
  rw [Bool.or_eq_false_iff] at h
  exact ⟨beq_ne h.1, beq_ne h.2⟩
section C25
variable {T : Jx} {G : Gl}
theorem cu_ok {kK kS kV : Nat} : CpOk T G (cu kK kS kV) := by
  have bb : ∀ k, Nat.beq k k = true := Nat.beq_refl
  refine ⟨fun u hu => ?_, fun H H' σ σ' h1 h2 h3 hS => ?_, ?_, ?_⟩
  · have hu : (Nat.beq u 306 || Nat.beq u 307) = true := hu
    rw [Bool.or_eq_true] at hu
    rcases hu with hu | hu <;> (rw [Nat.eq_of_beq_eq_true hu]; decide)
  · obtain ⟨s1, s2⟩ := (hS : uS kK kS kV H σ)
    have rK : σ'.1 kK = σ.1 kK := h2 kK (by show (Nat.beq kK kK || Nat.beq kK kS) = true; rw [bb, Bool.true_or])
    have rS : σ'.1 kS = σ.1 kS := h2 kS (by show (Nat.beq kS kK || Nat.beq kS kS) = true; rw [bb kS, Bool.or_true])
    have rV : σ'.2 kV = σ.2 kV := h3 kV (bb kV)
    have e1 : lk H' 306 = lk H 306 := h1 306 rfl
    have e2 : lk H' 307 = lk H 307 := h1 307 rfl
    show uS kK kS kV H' σ'
    unfold uS uN at *
    rw [rK, rS, rV, e1, e2]
    exact ⟨s1, s2⟩
  · intro s ρ σ k p v j x hl hl' H ho hb hp hi hv hx hr hw hh hS
    obtain ⟨s1, s2⟩ := (hS : uS kK kS kV H σ)
    replace hw : uw s hl k p v = some hl' := hw
    unfold uw at hw
    have fin : ∀ (T0 : Int), (∀ T, lk H 306 = some T → T ≤ (j : Int)) → uS kK kS kV H (zI σ k j x) := by
      intro _ hT
      have cell : ∀ (r i : Nat), (i : Int) < (j : Int) → (zI σ k j x).1 r i = σ.1 r i := fun r i hij => zI_ne (by rintro ⟨_, q⟩; omega)
      refine ⟨fun T hl3 i hi3 => ?_, fun T z hl3 hz i hi3 => ?_⟩
      · have hb3 := hT T hl3
        have := s1 T hl3 i hi3
        unfold uN at this ⊢
        rw [cell kS i (by omega), cell kK i (by omega), cell kS (i + 1) (by omega)]
        exact this
      · have hb3 := hT T hl3
        have := s2 T z hl3 hz i hi3
        unfold uN at this ⊢
        rw [cell kS i (by omega), cell kK i (by omega)]
        exact this
    split at hw
    · rename_i a ha
      cases hc : leAV s a p with
      | false => rw [hc] at hw; cases hw
      | true =>
        rw [hc] at hw
        cases Option.some.inj hw
        obtain ⟨zt, t1, t2⟩ := hl_get hh ha
        have hle := leAV_ok ho hc t2 hp
        exact ⟨H, hh, fin 0 (fun T hT => by rw [t1] at hT; cases hT; exact hle), fun _ _ => rfl⟩
    · rename_i ha
      cases Option.some.inj hw
      have hn : lk H 306 = none := by
        rcases hh.lkp (t := 306) with ⟨_, q⟩ | ⟨a, z, q, _, _⟩
        · exact q
        · rw [ha] at q; cases q
      exact ⟨H, hh, fin 0 (fun T hT => by rw [hn] at hT; cases hT), fun _ _ => rfl⟩
  · intro s ρ σ k p v j x hl hl' H ho hp hi hv hx hr hw hh hS
    obtain ⟨s1, s2⟩ := (hS : uS kK kS kV H σ)
    replace hw : uw s hl k p v = some hl' := hw
    unfold uw at hw
    have fin : ∀ (T0 : Int), (∀ T, lk H 306 = some T → T ≤ (j : Int)) → uS kK kS kV H (zJ σ k j x) := by
      intro _ hT
      have cell : ∀ (r i : Nat), (i : Int) < (j : Int) → (zJ σ k j x).2 r i = σ.2 r i := fun r i hij => zJ_ne (by rintro ⟨_, q⟩; omega)
      refine ⟨fun T hl3 i hi3 => ?_, fun T z hl3 hz i hi3 => ?_⟩
      · have hb3 := hT T hl3
        have := s1 T hl3 i hi3
        unfold uN at this ⊢
        rw [cell kV i (by omega)]
        exact this
      · have hb3 := hT T hl3
        have := s2 T z hl3 hz i hi3
        unfold uN at this ⊢
        rw [cell kV i (by omega)]
        exact this
    split at hw
    · rename_i a ha
      cases hc : leAV s a p with
      | false => rw [hc] at hw; cases hw
      | true =>
        rw [hc] at hw
        cases Option.some.inj hw
        obtain ⟨zt, t1, t2⟩ := hl_get hh ha
        have hle := leAV_ok ho hc t2 hp
        exact ⟨H, hh, fin 0 (fun T hT => by rw [t1] at hT; cases hT; exact hle), fun _ _ => rfl⟩
    · rename_i ha
      cases Option.some.inj hw
      have hn : lk H 306 = none := by
        rcases hh.lkp (t := 306) with ⟨_, q⟩ | ⟨a, z, q, _, _⟩
        · exact q
        · rw [ha] at q; cases q
      exact ⟨H, hh, fin 0 (fun T hT => by rw [hn] at hT; cases hT), fun _ _ => rfl⟩
end C25
def hu50 (s : Sy) : Sy := s.seth ((306, .c 0) :: (307, .c 0) :: s.hl)
def hu56 (s : Sy) : Sy := s.seth (hdel 306 (hdel 307 s.hl))
def hu57 (s : Sy) : Sy := s.seth (hdel 307 s.hl)
def hu51 (kS : Nat) (s : Sy) : Sy := match lk s.hl 306, lk s.hl 307 with
  | some T, some z => match mget s.me kS (pl s T) with
    | some a => bif (a.isI && eqAV s T (pl s T)) && leAV s z a then s.seth (hup 306 (shA T 1) (hdel 307 s.hl)) else s
    | none => s
  | _, _ => s
def hu52 (kK kS kV : Nat) (z : AV) (s : Sy) : Sy := match lk s.hl 306 with
  | some T => match mget s.me kS (pl s (shA T (-1))), mget s.me kK (pl s (shA T (-1))), mget s.me kV (pl s (shA T (-1))) with
    | some a, some d, some v => bif ((a.isI && d.isI) && (v.isL && eqAV s (shA T (-1)) (pl s (shA T (-1))))) && (leAV s (shA a 1) z && (dis (dom s d) [(1, 1)] || leAV s v z)) then s.seth ((306, T) :: (307, z) :: hdel 307 (hdel 306 s.hl)) else s
    | _, _, _ => s
  | none => s
/-- where the token at a field's place starts is read -/
def hu55 (kF jA kS : Nat) (s : Sy) : Sy := match mget s.me kF (.c (jA : Int)) with
  | some A => bif A.isI && inR s A 0 1200 then (s.rdI kS (pl s A) [(0, 1200)]).1 else s
  | none => s
def hu54 (kF jA kK kS kV : Nat) (s : Sy) : Sy := match mget s.me kF (.c (jA : Int)), lk s.hl 306 with
  | some A, some T => match mget s.me kS (pl s (shA A (-1))), mget s.me kS (pl s A) with
    | some a, some b => bif (A.isI && (a.isI && b.isI)) && ((eqAV s (shA A (-1)) (pl s (shA A (-1))) && eqAV s A (pl s A)) && leAV s (shA A 1) T) then (match mget s.me kK (pl s (shA A (-1))), mget s.me kV (pl s (shA A (-1))) with
        | some d, some v => bif (d.isI && v.isL) && (dsub (dom s d) [(1, 1)] && leAV s (shA a 2) v) then (s.below (shA a 1) b).below (shA a 2) b else s.below (shA a 1) b
        | _, _ => s.below (shA a 1) b) else s
    | _, _ => s
  | _, _ => s
def hu58 (kF jA jO jP kS : Nat) (s : Sy) : Sy := match mget s.me kF (.c (jA : Int)), mget s.me kF (.c (jO : Int)), mget s.me kF (.c (jP : Int)) with
  | some A, some o, some q => bif A.isI then (match mget s.me kS (pl s A) with
    | some x => bif (o.isI && (q.isI && x.isI)) && le3 s 1 o (-1200) q (-1) x 0 then s.factd (tlin 1 (nf s o).1 (tlin (-1200) (nf s q).1 (tlin (-1) (nf s x).1 []))) (-(nf s o).2 + 1200 * (nf s q).2 + (nf s x).2) else s
    | none => s) else s
  | _, _, _ => s
def hu59 (kF jO : Nat) (s : Sy) : Option Sy := match mget s.me kF (.c (jO : Int)) with
  | some o => bif o.isI && leAV s o (.c 9599) then s.refd o [(-2147483648, 9599)] else some s
  | none => some s
def UH (T : Jx) (G : Gl) (cs : List Cp) (kK kS kV : Nat) : Prop := T.wf = true ∧ (∀ c ∈ cs, CpOk T G c) ∧ cu kK kS kV ∈ cs ∧ ∀ c ∈ cs, ∀ t, utg t = true → c.tg t = true → c = cu kK kS kV
section H25
variable {T : Jx} {G : Gl} {cs : List Cp} {s : Sy} {ρ : List Int} {σ : zS} {kK kS kV : Nat}
theorem Jf_ru (hq : UH T G cs kK kS kV) {H H' : List (Nat × Int)} (hl : ∀ u, utg u = false → lk H' u = lk H u) (hJ : Jf T G (cS cs) H σ) (hn : uS kK kS kV H' σ) : Jf T G (cS cs) H' σ := by
  obtain ⟨hwf, hc, hm, hu⟩ := hq
  refine ⟨hJ.1, fun r R hr j hj hq2 => ?_, fun c q => ?_⟩
  · have hr0 : utg r = false := by
      cases e : utg r with
      | false => rfl
      | true =>
        have h1 := (hc _ hm).big r e
        have h2 := (wf_row hwf hr).1
        omega
    exact hJ.2.1 r R hr j hj (by rw [← hl r hr0]; exact hq2)
  by_cases e : ∃ t, utg t = true ∧ c.tg t = true
  · obtain ⟨t, e1, e2⟩ := e
    rw [hu c q t e1 e2]
    exact hn
  · exact (hc c q).dep H H' σ σ (fun u hu2 => hl u (by
      cases e3 : utg u with
      | false => rfl
      | true => exact absurd ⟨u, e3, hu2⟩ e)) (fun _ _ => rfl) (hJ.2.2 c q)
theorem u_re (hq : UH T G cs kK kS kV) {s1 : Sy} {H H' : List (Nat × Int)} (ho1 : Ok (Jf T G (cS cs)) s1 ρ σ) (i2 : Jf T G (cS cs) H σ) {hl' : List (Nat × AV)} (hh : Hl ρ hl' H') (hl : ∀ u, utg u = false → lk H' u = lk H u) (hS : uS kK kS kV H' σ) : Ok (Jf T G (cS cs)) (s1.seth hl') ρ σ := ⟨ho1.len, ho1.env, ho1.me, ho1.cg, ho1.df, ho1.fa, H', hh, Jf_ru hq hl i2 hS⟩
theorem UH.S (hq : UH T G cs kK kS kV) {H : List (Nat × Int)} (i2 : Jf T G (cS cs) H σ) : uS kK kS kV H σ := i2.2.2 _ hq.2.2.1
theorem hu50_ok (hq : UH T G cs kK kS kV) (ho : Ok (Jf T G (cS cs)) s ρ σ) : Ok (Jf T G (cS cs)) (hu50 s) ρ σ := by
  obtain ⟨H, i1, i2⟩ := ho.inv
  refine u_re hq ho i2 (H' := (306, 0) :: (307, 0) :: H) ⟨⟨rfl, rfl⟩, ⟨rfl, rfl⟩, i1⟩ (fun u hu => by rw [lk_cons, if_neg (utg_off hu).1, lk_cons, if_neg (utg_off hu).2]) ⟨fun T hT i hi => ?_, fun T z hT _ i hi => ?_⟩
  · rw [lk_cons, if_pos rfl] at hT
    cases hT
    omega
  · rw [lk_cons, if_pos rfl] at hT
    cases hT
    omega
theorem hu56_ok (hq : UH T G cs kK kS kV) (ho : Ok (Jf T G (cS cs)) s ρ σ) : Ok (Jf T G (cS cs)) (hu56 s) ρ σ := by
  obtain ⟨H, i1, i2⟩ := ho.inv
  refine u_re hq ho i2 (H' := hdel 306 (hdel 307 H)) i1.del.del (fun u hu => by rw [lk_hdel, if_neg (utg_off hu).1, lk_hdel, if_neg (utg_off hu).2]) ⟨fun T hT => ?_, fun T z hT => ?_⟩ <;> (rw [lk_hdel, if_pos rfl] at hT; cases hT)
theorem hu57_ok (hq : UH T G cs kK kS kV) (ho : Ok (Jf T G (cS cs)) s ρ σ) : Ok (Jf T G (cS cs)) (hu57 s) ρ σ := by
  obtain ⟨H, i1, i2⟩ := ho.inv
  obtain ⟨s1, s2⟩ := hq.S i2
  refine u_re hq ho i2 (H' := hdel 307 H) i1.del (fun u hu => by rw [lk_hdel, if_neg (utg_off hu).2]) ⟨fun T hT => s1 T (by rw [lk_hdel, if_neg (by decide)] at hT; exact hT), fun T z _ hz => ?_⟩
  rw [lk_hdel, if_pos rfl] at hz
  cases hz
theorem hu51_ok (hq : UH T G cs kK kS kV) (ho : Ok (Jf T G (cS cs)) s ρ σ) : Ok (Jf T G (cS cs)) (hu51 kS s) ρ σ := by
  unfold hu51
  split
  · rename_i t z ht hz
    split
    · rename_i a hm
      cases hb : (a.isI && eqAV s t (pl s t)) && leAV s z a with
      | false => exact ho
      | true =>
        simp only [Bool.and_eq_true] at hb
        obtain ⟨H, i1, i2⟩ := ho.inv
        obtain ⟨s1, s2⟩ := hq.S i2
        obtain ⟨zt, t1, t2⟩ := hl_get i1 ht
        obtain ⟨zz, z1, z2⟩ := hl_get i1 hz
        obtain ⟨j', f1, _⟩ := ho.me _ (mget_mem hm)
        have ej := eqAV_ok ho hb.1.2 t2 f1
        have ea := me_at ho hm f1 hb.1.1
        have hle := leAV_ok ho hb.2 z2 ea
        have hd : lk (hdel 307 H) 306 = some zt := by rw [lk_hdel, if_neg (by decide)]; exact t1
        refine u_re hq ho i2 (H' := hup 306 (zt + 1) (hdel 307 H)) (i1.del.up (shA_ev t2)) (fun u hu => by rw [lk_hup_ne (utg_off hu).1, lk_hdel, if_neg (utg_off hu).2]) ⟨fun T hT i hi => ?_, fun T z' _ hz' => ?_⟩
        · rw [lk_hup_at hd] at hT
          cases hT
          by_cases e : (i : Int) + 1 < zt
          · exact s1 zt t1 i e
          · have h3 := s2 zt zz t1 z1 i (by omega)
            have ei : i + 1 = j' := by omega
            rw [ei]
            exact ⟨by have := h3.1; omega, fun q => by have := h3.2 q; omega⟩
        · rw [lk_hup_ne (by decide), lk_hdel, if_pos rfl] at hz'
          cases hz'
    · exact ho
  · exact ho
theorem hu52_ok (hq : UH T G cs kK kS kV) {z : AV} {zz : Int} (hz : ev ρ z = some zz) (ho : Ok (Jf T G (cS cs)) s ρ σ) : Ok (Jf T G (cS cs)) (hu52 kK kS kV z s) ρ σ := by
  unfold hu52
  split
  · rename_i t ht
    split
    · rename_i a d v ha hd hv
      cases hb : ((a.isI && d.isI) && (v.isL && eqAV s (shA t (-1)) (pl s (shA t (-1))))) && (leAV s (shA a 1) z && (dis (dom s d) [(1, 1)] || leAV s v z)) with
      | false => exact ho
      | true =>
        simp only [Bool.and_eq_true, Bool.or_eq_true] at hb
        obtain ⟨⟨⟨b1, b2⟩, b3, b4⟩, b5, b6⟩ := hb
        obtain ⟨H, i1, i2⟩ := ho.inv
        obtain ⟨s1, s2⟩ := hq.S i2
        obtain ⟨zt, t1, t2⟩ := hl_get i1 ht
        obtain ⟨j', f1, _⟩ := ho.me _ (mget_mem ha)
        have ej := eqAV_ok ho b4 (shA_ev t2) f1
        have ea := me_at ho ha f1 b1
        have ed := me_at ho hd f1 b2
        have hle := leAV_ok ho b5 (shA_ev ea) hz
        have hvz : (σ.1 kK j').toInt = 1 → (σ.2 kV j').toInt ≤ zz := by
          intro q
          rcases b6 with b6 | b6
          · have h9 := dom_i ho b2 ed
            exact (dis_ok b6 h9 ⟨_, List.mem_cons_self .., by dsimp only; omega, by dsimp only; omega⟩).elim
          · obtain ⟨j2, g1, g2⟩ := ho.me _ (mget_mem hv)
            have e2 : j2 = j' := by
              have := Option.some.inj (g1.symm.trans f1)
              omega
            subst e2
            rcases g2 with ⟨g3, _⟩ | ⟨_, g3⟩
            · exact (isI_L g3 b3).elim
            · exact leAV_ok ho b6 g3 hz
        refine u_re hq ho i2 (H' := (306, zt) :: (307, zz) :: hdel 307 (hdel 306 H)) ⟨⟨rfl, t2⟩, ⟨rfl, hz⟩, i1.del.del⟩ (fun u hu => by rw [lk_cons, if_neg (utg_off hu).1, lk_cons, if_neg (utg_off hu).2, lk_hdel, if_neg (utg_off hu).2, lk_hdel, if_neg (utg_off hu).1]) ⟨fun T hT i hi => ?_, fun T z' hT hz' i hi => ?_⟩
        · rw [lk_cons, if_pos rfl] at hT
          cases hT
          exact s1 zt t1 i hi
        · rw [lk_cons, if_pos rfl] at hT
          rw [lk_cons, if_neg (by decide), lk_cons, if_pos rfl] at hz'
          cases hT
          cases hz'
          have ei : i = j' := by omega
          subst ei
          exact ⟨hle, hvz⟩
    · exact ho
  · exact ho
theorem hu54_ok (hq : UH T G cs kK kS kV) {kF jA : Nat} (ho : Ok (Jf T G (cS cs)) s ρ σ) : Ok (Jf T G (cS cs)) (hu54 kF jA kK kS kV s) ρ σ := by
  unfold hu54
  split
  · rename_i A t hA ht
    split
    · rename_i a b ha hb0
      cases hb : (A.isI && (a.isI && b.isI)) && ((eqAV s (shA A (-1)) (pl s (shA A (-1))) && eqAV s A (pl s A)) && leAV s (shA A 1) t) with
      | false => exact ho
      | true =>
        simp only [Bool.and_eq_true] at hb
        obtain ⟨⟨b0, b1, b2⟩, ⟨b3, b4⟩, b5⟩ := hb
        simp only [cond_true]
        obtain ⟨H, i1, i2⟩ := ho.inv
        obtain ⟨s1, s2⟩ := hq.S i2
        obtain ⟨zt, t1, t2⟩ := hl_get i1 ht
        have eA := me_at ho hA (j := jA) rfl b0
        obtain ⟨j1, f1, _⟩ := ho.me _ (mget_mem ha)
        obtain ⟨j2, f2, _⟩ := ho.me _ (mget_mem hb0)
        have e1 := eqAV_ok ho b3 (shA_ev eA) f1
        have e2 := eqAV_ok ho b4 eA f2
        have ea := me_at ho ha f1 b1
        have eb := me_at ho hb0 f2 b2
        have hlt := leAV_ok ho b5 (shA_ev eA) t2
        have hN := s1 zt t1 j1 (by omega)
        have ej : j1 + 1 = j2 := by omega
        rw [ej] at hN
        have k1 := below_ok ho (shA_ev (o := 1) ea) eb hN.1
        split
        · rename_i d v hd hv
          cases hc : (d.isI && v.isL) && (dsub (dom s d) [(1, 1)] && leAV s (shA a 2) v) with
          | false => exact k1
          | true =>
            simp only [Bool.and_eq_true] at hc
            have ed := me_at ho hd f1 hc.1.1
            have hd1 := inD_one (dsub_in hc.2.1 (dom_i ho hc.1.1 ed))
            have hv2 := hN.2 (by omega)
            obtain ⟨j3, g1, g2⟩ := ho.me _ (mget_mem hv)
            have e3 : j3 = j1 := by
              have := Option.some.inj (g1.symm.trans f1)
              omega
            subst e3
            rcases g2 with ⟨g3, _⟩ | ⟨_, g3⟩
            · exact (isI_L g3 hc.1.2).elim
            · have g4 : ev ρ v = some (σ.2 kV j3).toInt := g3
              have h9 := leAV_ok ho hc.2.2 (shA_ev (o := 2) ea) g4
              exact below_ok k1 (shA_ev (o := 2) ea) eb (by omega)
        · exact k1
    · exact ho
  · exact ho
theorem hu55_ok {J : Jt} {kF jA : Nat} (hb : ∀ j : Nat, j < 1201 → inD (σ.1 kS j).toInt [(0, 1200)]) (ho : Ok J s ρ σ) : ∃ ρ', Pre ρ ρ' ∧ Ok J (hu55 kF jA kS s) ρ' σ := by
  unfold hu55
  split
  · rename_i A hA
    cases hc : A.isI && inR s A 0 1200 with
    | false => exact ⟨ρ, Pre.rf, ho⟩
    | true =>
      rw [Bool.and_eq_true] at hc
      have eA := me_at ho hA (j := jA) rfl hc.1
      have hr := inR_ok ho hc.2 eA (dom_i ho hc.1 eA)
      have ep := pl_ok ho hc.1 eA
      have en : (σ.1 kF jA).toInt = (((σ.1 kF jA).toInt.toNat : Nat) : Int) := by omega
      obtain ⟨ρ', p1, p2, _⟩ := rdI_ok ho (k := kS) (j := (σ.1 kF jA).toInt.toNat) (p := pl s A) (d := [(0, 1200)]) (by rw [← en]; exact ep) (hb _ (by omega))
      exact ⟨ρ', p1, p2⟩
  · exact ⟨ρ, Pre.rf, ho⟩
theorem hu58_ok {J : Jt} {kF jA jO jP : Nat} (ho : Ok J s ρ σ) : Ok J (hu58 kF jA jO jP kS s) ρ σ := by
  unfold hu58
  split
  · rename_i A o q hA hO hQ
    cases hAI : A.isI with
    | false => exact ho
    | true =>
      simp only [cond_true]
      split
      · rename_i x hx
        cases hc : (o.isI && (q.isI && x.isI)) && le3 s 1 o (-1200) q (-1) x 0 with
        | false => exact ho
        | true =>
          simp only [Bool.and_eq_true] at hc
          have eo := me_at ho hO (j := jO) rfl hc.1.1
          have eq := me_at ho hQ (j := jP) rfl hc.1.2.1
          obtain ⟨j', f1, _⟩ := ho.me _ (mget_mem hx)
          have ex := me_at ho hx f1 hc.1.2.2
          have h3 := le3_ok ho hc.2 eo eq ex
          obtain ⟨v1, a1, a2⟩ := nf_ok ho eo
          obtain ⟨v2, b1, b2⟩ := nf_ok ho eq
          obtain ⟨v3, c1, c2⟩ := nf_ok ho ex
          exact factd_ok ho (tlin_ok (w := 1) a1 (tlin_ok (w := -1200) b1 (tlin_ok (w := -1) c1 (f := []) (v := 0) rfl))) (by omega)
      · exact ho
  · exact ho
theorem hu59_ok {J : Jt} {kF jO : Nat} (ho : Ok J s ρ σ) : ∃ s', hu59 kF jO s = some s' ∧ Ok J s' ρ σ := by
  unfold hu59
  split
  · rename_i o hO
    cases hc : o.isI && leAV s o (.c 9599) with
    | false => exact ⟨s, rfl, ho⟩
    | true =>
      rw [Bool.and_eq_true] at hc
      have eo := me_at ho hO (j := jO) rfl hc.1
      have hle := leAV_ok ho hc.2 eo (y := 9599) rfl
      obtain ⟨s', e1, e2⟩ := refd_ok ho eo (dom_i ho hc.1 eo) (d := [(-2147483648, 9599)]) ⟨_, List.mem_cons_self .., Int32.le_toInt _, hle⟩
      exact ⟨s', e1, e2⟩
  · exact ⟨s, rfl, ho⟩
end H25
end
