noncomputable section
/-! ===== WHAT ELSE HOLDS, 31: what the reference holds at a place, kept by tags; a place that is the same (61, 93, 94) ===== -/
def mfd : List (Nat × Nat) → Nat → Option Nat
  | [], _ => none
  | e :: L, t => bif Nat.beq e.1 t then some e.2 else mfd L t
theorem mfd_mem : ∀ {L : List (Nat × Nat)} {t k : Nat}, mfd L t = some k → (t, k) ∈ L
  | [], _, _, h => by cases h
  | (u, q) :: L, t, k, h => by
    unfold mfd at h
    cases hb : Nat.beq u t with
    | true =>
      replace h : (bif Nat.beq u t then some q else mfd L t) = some k := h
      rw [hb] at h
      have e1 := Nat.eq_of_beq_eq_true hb
      have e2 : q = k := Option.some.inj h
      subst e1 e2
      exact List.mem_cons_self ..
    | false =>
      replace h : (bif Nat.beq u t then some q else mfd L t) = some k := h
      rw [hb] at h
      exact List.mem_cons_of_mem _ (mfd_mem h)
def mtg (t : Nat) : Bool := Nat.ble 540 t && Nat.ble t 555
def mApt (L : List (Nat × Nat)) : Bool := L.all fun e => (Nat.ble 540 e.1 && Nat.ble e.1 552) && Nat.beq (e.1 % 4) 0
theorem mApt_ok {L : List (Nat × Nat)} (h : mApt L = true) {t k : Nat} (hm : mfd L t = some k) : 540 ≤ t ∧ t ≤ 552 ∧ t % 4 = 0 := by
  have h9 : ((Nat.ble 540 t && Nat.ble t 552) && Nat.beq (t % 4) 0) = true := List.all_eq_true.mp h _ (mfd_mem hm)
  simp only [Bool.and_eq_true] at h9
  exact ⟨Nat.le_of_ble_eq_true h9.1.1, Nat.le_of_ble_eq_true h9.1.2, Nat.eq_of_beq_eq_true h9.2⟩
theorem mtg_no {u : Nat} (h : mtg u = false) : ¬ (540 ≤ u ∧ u ≤ 555) := fun q => by
  have : mtg u = true := by
    show (Nat.ble 540 u && Nat.ble u 555) = true
    rw [Bool.and_eq_true]
    exact ⟨Nat.ble_eq_true_of_le q.1, Nat.ble_eq_true_of_le q.2⟩
  rw [this] at h
  cases h
/-- at t a place, at t + 1 what the row holds there -/
def mS (L : List (Nat × Nat)) (H : List (Nat × Int)) (σ : zS) : Prop := ∀ t k, mfd L t = some k → ∀ x v, lk H t = some x → lk H (t + 1) = some v → ∃ i : Nat, x = (i : Int) ∧ (σ.1 k i).toInt = v
def cm (L : List (Nat × Nat)) : Cp := (mtg, (mS L, (fun q => L.any fun e => Nat.beq q e.2, (fun _ hl k _ _ => bif L.all (fun e => !(Nat.beq k e.2) || !(isS (lk hl e.1))) then some hl else none, nlw))))
theorem cm_ok {T : Jx} {G : Gl} {L : List (Nat × Nat)} (hL : mApt L = true) : CpOk T G (cm L) := by
  apply CpOk.no (fun _ => rfl)
  have tin : ∀ u, 540 ≤ u → u ≤ 555 → mtg u = true := fun u h1 h2 => by
    show (Nat.ble 540 u && Nat.ble u 555) = true
    rw [Bool.and_eq_true]
    exact ⟨Nat.ble_eq_true_of_le h1, Nat.ble_eq_true_of_le h2⟩
  refine ⟨fun u hu => ?_, fun H H' σ σ' h1 h2 hS => ?_, ?_⟩
  · have hu : (Nat.ble 540 u && Nat.ble u 555) = true := hu
    rw [Bool.and_eq_true] at hu
    have := Nat.le_of_ble_eq_true hu.1
    omega
  · show mS L H' σ'
    replace hS : mS L H σ := hS
    intro t k hm x v a b
    obtain ⟨g1, g2, _⟩ := mApt_ok hL hm
    rw [h1 t (tin t (by omega) (by omega))] at a
    rw [h1 (t + 1) (tin _ (by omega) (by omega))] at b
    rw [h2 k (List.any_eq_true.mpr ⟨(t, k), mfd_mem hm, Nat.beq_refl k⟩)]
    exact hS t k hm x v a b
  · intro s ρ σ k p v j x hl hl' H ho hb hp hi hv hx hr hw hh hS
    replace hw : (bif L.all (fun e => !(Nat.beq k e.2) || !(isS (lk hl e.1))) then some hl else none) = some hl' := hw
    replace hS : mS L H σ := hS
    cases hc : L.all (fun e => !(Nat.beq k e.2) || !(isS (lk hl e.1))) with
    | false => rw [hc] at hw; cases hw
    | true =>
      rw [hc] at hw
      cases Option.some.inj hw
      refine ⟨H, hh, ?_, fun _ _ => rfl⟩
      show mS L H (zI σ k j x)
      intro t q hm y w a b
      by_cases e : k = q
      · have h9 : (!(Nat.beq k q) || !(isS (lk hl t))) = true := List.all_eq_true.mp hc _ (mfd_mem hm)
        rcases hh.lkp (t := t) with ⟨_, q2⟩ | ⟨a', z, q1, _, _⟩
        · rw [q2] at a; cases a
        · rw [e, Nat.beq_refl, q1] at h9
          cases h9
      · obtain ⟨i, c1, c2⟩ := hS t q hm y w a b
        exact ⟨i, c1, by rw [zI_ne (by rintro ⟨e', _⟩; exact e e'.symm)]; exact c2⟩
section H32
variable {T : Jx} {G : Gl} {cs : List Cp} {s : Sy} {ρ : List Int} {σ : zS} {L : List (Nat × Nat)}
def h93 (L : List (Nat × Nat)) (t : Nat) (a : AV) (s : Sy) : Sy := match mfd L t with
  | some k => match oth s k a with
    | some w => bif a.isI && !(isS (lk s.hl t)) then s.seth (hset t a (hset (t + 1) w s.hl)) else s
    | none => s
  | none => s
theorem h93_ok (hL : mApt L = true) (hP : PH T G cs (cm L)) {t : Nat} {a : AV} {j : Nat} (hz : ev ρ a = some (j : Int)) (ho : Ok (Jf T G (cS cs)) s ρ σ) : Ok (Jf T G (cS cs)) (h93 L t a s) ρ σ := by
  unfold h93
  split
  · rename_i k hm
    split
    · rename_i w hw
      cases hc : a.isI && !(isS (lk s.hl t)) with
      | false => exact ho
      | true =>
        obtain ⟨H, i1, i2⟩ := ho.inv
        have hS : mS L H σ := i2.2.2 _ hP.2.2.1
        obtain ⟨g1, g2, g3⟩ := mApt_ok hL hm
        obtain ⟨o1, o2⟩ := oth_ok ho hw hz
        refine ph_set hP ho i2 ((i1.set o2).set hz) (fun u hu => ?_) (show mS L _ σ from fun t' k' hm' x v b c => ?_)
        · have := mtg_no hu
          rw [lk_hset, if_neg (by omega), lk_hset, if_neg (by omega)]
        · obtain ⟨g1', g2', g3'⟩ := mApt_ok hL hm'
          by_cases e : t' = t
          · rw [e] at hm' b c
            rw [lk_hset, if_pos rfl] at b
            rw [lk_hset, if_neg (by omega), lk_hset, if_pos rfl] at c
            have ek : k = k' := Option.some.inj (hm.symm.trans hm')
            rw [← ek]
            exact ⟨j, (Option.some.inj b).symm, Option.some.inj c⟩
          · rw [lk_hset, if_neg e, lk_hset, if_neg (by omega)] at b
            rw [lk_hset, if_neg (by omega), lk_hset, if_neg (by omega)] at c
            exact hS t' k' hm' x v b c
    · exact ho
  · exact ho
theorem m_drop (hL : mApt L = true) (hP : PH T G cs (cm L)) {t k : Nat} (hm : mfd L t = some k) (ho : Ok (Jf T G (cS cs)) s ρ σ) : Ok (Jf T G (cS cs)) (s.seth (hdel t (hdel (t + 1) s.hl))) ρ σ := by
  obtain ⟨H, i1, i2⟩ := ho.inv
  have hS : mS L H σ := i2.2.2 _ hP.2.2.1
  obtain ⟨g1, g2, g3⟩ := mApt_ok hL hm
  refine ph_set hP ho i2 ((i1.del).del) (fun u hu => ?_) (show mS L _ σ from fun t' k' hm' x v b c => ?_)
  · have := mtg_no hu
    rw [lk_hdel, if_neg (by omega), lk_hdel, if_neg (by omega)]
  · obtain ⟨g1', g2', g3'⟩ := mApt_ok hL hm'
    by_cases e : t' = t
    · rw [e, lk_hdel, if_pos rfl] at b; cases b
    · rw [lk_hdel, if_neg e, lk_hdel, if_neg (by omega)] at b
      rw [lk_hdel, if_neg (by omega), lk_hdel, if_neg (by omega)] at c
      exact hS t' k' hm' x v b c
def h94 (L : List (Nat × Nat)) (t : Nat) (s : Sy) : Sy := match mfd L t with
  | some k => match lk s.hl t with
    | some x => match lk s.hl (t + 1) with
      | some w => bif w.isI && (eqA s x (pl s x) && !(isS (mget s.me k (pl s x)))) then (s.add k (pl s x) w).seth (hdel t (hdel (t + 1) s.hl)) else s.seth (hdel t (hdel (t + 1) s.hl))
      | none => s
    | none => s
  | none => s
theorem h94_ok (hL : mApt L = true) (hP : PH T G cs (cm L)) {t : Nat} (ho : Ok (Jf T G (cS cs)) s ρ σ) : Ok (Jf T G (cS cs)) (h94 L t s) ρ σ := by
  unfold h94
  split
  · rename_i k hm
    split
    · rename_i x qx
      split
      · rename_i w qw
        cases hb : w.isI && (eqA s x (pl s x) && !(isS (mget s.me k (pl s x)))) with
        | false => exact m_drop hL hP hm ho
        | true =>
          simp only [Bool.and_eq_true] at hb
          obtain ⟨H, i1, i2⟩ := ho.inv
          have hS : mS L H σ := i2.2.2 _ hP.2.2.1
          obtain ⟨zx, x1, x2⟩ := tag_get ho i1 qx
          obtain ⟨zw, w1, w2⟩ := tag_get ho i1 qw
          obtain ⟨j, c1, c2⟩ := hS t k hm zx zw x1 w1
          obtain ⟨y, hy⟩ := pl_ev (s := s) x2
          have e := eqA_ok ho hb.2.1 x2 hy
          have hf : Mf ρ σ (k, (pl s x, w)) := ⟨j, by rw [hy]; exact congrArg some (by omega), Or.inl ⟨hb.1, by rw [w2, c2]⟩⟩
          exact m_drop (s := s.add k (pl s x) w) hL hP hm (ho.addm hf)
      · exact ho
    · exact ho
  · exact ho
end H32
section H33
variable {J : Jt} {s : Sy} {ρ : List Int} {σ : zS}
/-- 61: what is known of a row at a place that is the same -/
def hsm (k : Nat) (a : AV) (s : Sy) : List (Nat × (AV × AV)) → Sy
  | [] => s
  | e :: r => bif Nat.beq e.1 k && eqA s e.2.1 a then s.add k (pl s a) e.2.2 else hsm k a s r
theorem hsm_ok {k : Nat} {a : AV} {z : Int} (hz : ev ρ a = some z) (he : eqA s a (pl s a) = true) (ho : Ok J s ρ σ) : ∀ {es : List (Nat × (AV × AV))}, (∀ e ∈ es, Mf ρ σ e) → Ok J (hsm k a s es) ρ σ
  | [], _ => ho
  | (q, (p, w)) :: r, hes => by
    unfold hsm
    cases hb : Nat.beq q k && eqA s p a with
    | false => exact hsm_ok hz he ho (fun e' h => hes e' (List.mem_cons_of_mem _ h))
    | true =>
      rw [Bool.and_eq_true] at hb
      have ek := Nat.eq_of_beq_eq_true hb.1
      subst ek
      obtain ⟨j, f1, f2⟩ := hes _ (List.mem_cons_self ..)
      have e1 := eqA_ok ho hb.2 f1 hz
      obtain ⟨y, hy⟩ := pl_ev (s := s) hz
      have e2 := eqA_ok ho he hz hy
      exact ho.addm ⟨j, by rw [hy]; exact congrArg some (by omega), f2⟩
def h61 (k : Nat) (a : AV) (s : Sy) : Sy := bif eqA s a (pl s a) && !(isS (mget s.me k (pl s a))) then hsm k a s s.me else s
theorem h61_ok {k : Nat} {a : AV} {z : Int} (hz : ev ρ a = some z) (ho : Ok J s ρ σ) : Ok J (h61 k a s) ρ σ := by
  unfold h61
  cases hb : eqA s a (pl s a) && !(isS (mget s.me k (pl s a))) with
  | false => exact ho
  | true =>
    rw [Bool.and_eq_true] at hb
    exact hsm_ok hz hb.1 ho (fun e h => ho.me e h)
end H33
end
