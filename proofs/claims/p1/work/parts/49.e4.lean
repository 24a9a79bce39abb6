/-! ===== ENGINE 8: the walk is right ===== -/
def vals (ρ : List Int) (th : List AV) : List Int := th.map fun a => (ev ρ a).getD 0
def Df (ρ : List Int) (th : List AV) : Prop := ∀ a ∈ th, (a.isI = true ∧ ∃ y : Int32, ev ρ a = some y.toInt) ∨ (a.isL = true ∧ ∃ y : Int64, ev ρ a = some y.toInt)
def Ext (th th' : List AV) : Prop := ∃ t, th' = th ++ t
theorem Ext.rf {th : List AV} : Ext th th := ⟨[], by simp⟩
theorem Ext.tr {a b c : List AV} (h : Ext a b) (h' : Ext b c) : Ext a c := by
  obtain ⟨s, rfl⟩ := h
  obtain ⟨t, rfl⟩ := h'
  exact ⟨s ++ t, by simp⟩
theorem Ext.pre {ρ : List Int} {th th' : List AV} (h : Ext th th') : Pre (vals ρ th) (vals ρ th') := by
  obtain ⟨t, rfl⟩ := h
  exact ⟨vals ρ t, by simp [vals]⟩
theorem vals_at {ρ : List Int} {th : List AV} {i : Nat} {a : AV} {x : Int} (h : th[i]? = some a) (hx : ev ρ a = some x) : (vals ρ th)[i]? = some x := by
  simp [vals, List.getElem?_map, h, hx]
theorem Rv.isI {ρ : List Int} {p : AV} {y : Int32} (h : Rv ρ p (.int y)) : p.isI = true ∧ ev ρ p = some y.toInt := by
  cases p with
  | i id o => obtain ⟨z, h1, h2⟩ := h; cases h1; exact ⟨rfl, h2⟩
  | c n => obtain ⟨z, h1, h2⟩ := h; cases h1; exact ⟨rfl, congrArg some h2⟩
  | l id o => obtain ⟨z, h1, h2⟩ := h; cases h1
  | k n => obtain ⟨z, h1, h2⟩ := h; cases h1
  | r q => cases h
  | rr b n => obtain ⟨z, h1, h2⟩ := h; cases h1
theorem Rv.isL {ρ : List Int} {p : AV} {y : Int64} (h : Rv ρ p (.long y)) : p.isL = true ∧ ev ρ p = some y.toInt := by
  cases p with
  | i id o => obtain ⟨z, h1, h2⟩ := h; cases h1
  | c n => obtain ⟨z, h1, h2⟩ := h; cases h1
  | l id o => obtain ⟨z, h1, h2⟩ := h; cases h1; exact ⟨rfl, h2⟩
  | k n => obtain ⟨z, h1, h2⟩ := h; cases h1; exact ⟨rfl, congrArg some h2⟩
  | r q => cases h
  | rr b n => obtain ⟨z, h1, h2⟩ := h; cases h1
section E8
variable {J : zS → Prop} {s : Sy} {ρ : List Int} {σ : zS}
theorem mt_ok (h : Ok J s ρ σ) {p a : AV} {th th' : List AV} {v : Value} (hm : mt s p a th = some th') (hd : Df ρ th) (hv : Rv ρ a v) : Df ρ th' ∧ Ext th th' ∧ Rv (vals ρ th') p v := by
  cases p with
  | i id o =>
    simp only [mt] at hm
    cases hc : a.isI && (ile o 0 && ile 0 o) with
    | false => rw [hc] at hm; cases hm
    | true =>
      rw [hc] at hm
      simp only [Bool.and_eq_true] at hc
      have ho : o = 0 := ile_eq hc.2
      subst ho
      obtain ⟨y, rfl, hy⟩ := hv.int hc.1
      simp only [cond_true] at hm
      cases ht : th[id]? with
      | some b =>
        rw [ht] at hm
        simp only at hm
        cases he : AV.eq a b with
        | false => rw [he] at hm; cases hm
        | true =>
          rw [he] at hm
          cases Option.some.inj hm
          have := AV.eq_of he
          subst this
          exact ⟨hd, Ext.rf, y, rfl, by simp only [ev, vals_at ht hy, Int.add_zero]⟩
      | none =>
        rw [ht] at hm
        simp only at hm
        cases he : Nat.beq id th.length with
        | false => rw [he] at hm; cases hm
        | true =>
          rw [he] at hm
          cases Option.some.inj hm
          have hi := Nat.eq_of_beq_eq_true he
          have ha : (th ++ [a])[id]? = some a := by rw [hi]; simp
          refine ⟨fun b hb => ?_, ⟨[a], rfl⟩, y, rfl, by simp only [ev, vals_at ha hy, Int.add_zero]⟩
          rcases List.mem_append.mp hb with hb | hb
          · exact hd b hb
          · rcases List.mem_cons.mp hb with rfl | hb
            · exact Or.inl ⟨hc.1, y, hy⟩
            · cases hb
  | l id o =>
    simp only [mt] at hm
    cases hc : a.isL && (ile o 0 && ile 0 o) with
    | false => rw [hc] at hm; cases hm
    | true =>
      rw [hc] at hm
      simp only [Bool.and_eq_true] at hc
      have ho : o = 0 := ile_eq hc.2
      subst ho
      obtain ⟨y, rfl, hy⟩ := hv.long hc.1
      simp only [cond_true] at hm
      cases ht : th[id]? with
      | some b =>
        rw [ht] at hm
        simp only at hm
        cases he : AV.eq a b with
        | false => rw [he] at hm; cases hm
        | true =>
          rw [he] at hm
          cases Option.some.inj hm
          have := AV.eq_of he
          subst this
          exact ⟨hd, Ext.rf, y, rfl, by simp only [ev, vals_at ht hy, Int.add_zero]⟩
      | none =>
        rw [ht] at hm
        simp only at hm
        cases he : Nat.beq id th.length with
        | false => rw [he] at hm; cases hm
        | true =>
          rw [he] at hm
          cases Option.some.inj hm
          have hi := Nat.eq_of_beq_eq_true he
          have ha : (th ++ [a])[id]? = some a := by rw [hi]; simp
          refine ⟨fun b hb => ?_, ⟨[a], rfl⟩, y, rfl, by simp only [ev, vals_at ha hy, Int.add_zero]⟩
          rcases List.mem_append.mp hb with hb | hb
          · exact hd b hb
          · rcases List.mem_cons.mp hb with rfl | hb
            · exact Or.inr ⟨hc.1, y, hy⟩
            · cases hb
  | c n =>
    simp only [mt] at hm
    cases hc : a.isI && dsub (dom s a) [(n, n)] with
    | false => rw [hc] at hm; cases hm
    | true =>
      rw [hc] at hm
      cases Option.some.inj hm
      simp only [Bool.and_eq_true] at hc
      obtain ⟨y, rfl, hy⟩ := hv.int hc.1
      have := inD_one (dsub_in hc.2 (dom_i h hc.1 hy))
      exact ⟨hd, Ext.rf, y, rfl, by omega⟩
  | k n =>
    simp only [mt] at hm
    cases hc : a.isL && dsub (dom s a) [(n, n)] with
    | false => rw [hc] at hm; cases hm
    | true =>
      rw [hc] at hm
      cases Option.some.inj hm
      simp only [Bool.and_eq_true] at hc
      obtain ⟨y, rfl, hy⟩ := hv.long hc.1
      have := inD_one (dsub_in hc.2 (dom_l h hc.1 hy))
      exact ⟨hd, Ext.rf, y, rfl, by omega⟩
  | r q =>
    simp only [mt] at hm
    cases hc : AV.eq a (.r q) with
    | false => rw [hc] at hm; cases hm
    | true =>
      rw [hc] at hm
      cases Option.some.inj hm
      have := AV.eq_of hc
      subst this
      exact ⟨hd, Ext.rf, hv⟩
  | rr b n =>
    simp only [mt] at hm
    cases hc : AV.eq a (.rr b n) with
    | false => rw [hc] at hm; cases hm
    | true =>
      rw [hc] at hm
      cases Option.some.inj hm
      have := AV.eq_of hc
      subst this
      exact ⟨hd, Ext.rf, hv⟩
theorem mtl_ok (h : Ok J s ρ σ) : ∀ {ps as th th' : List AV} {v : List Value}, mtl s ps as th = some th' → Df ρ th → Rs ρ as v → Df ρ th' ∧ Ext th th' ∧ Rs (vals ρ th') ps v
  | [], [], th, th', v, hm, hd, hv => by
    cases Option.some.inj hm
    cases hv.nil
    exact ⟨hd, Ext.rf, trivial⟩
  | p :: ps, a :: as, th, th', v, hm, hd, hv => by
    unfold mtl at hm
    obtain ⟨w, v', rfl, h1, h2⟩ := hv.cons
    cases hc : mt s p a th with
    | none => rw [hc] at hm; cases hm
    | some t1 =>
      rw [hc] at hm
      obtain ⟨d1, e1, r1⟩ := mt_ok h hc hd h1
      obtain ⟨d2, e2, r2⟩ := mtl_ok h hm d1 h2
      exact ⟨d2, e1.tr e2, r1.mono e2.pre, r2⟩
  | [], _ :: _, th, th', v, hm, _, _ => by simp [mtl] at hm
  | _ :: _, [], th, th', v, hm, _, _ => by simp [mtl] at hm
theorem mtv_ok (h : Ok J s ρ σ) {lv : List (Nat × AV)} {l : List (Nat × Value)} (hl : Rl ρ lv l) : ∀ {ps : List (Nat × AV)} {th th' : List AV}, mtv s lv ps th = some th' → Df ρ th → ∃ (ks : List Nat) (l' : List (Nat × Value)), lv_pick l ks = l' ∧ Df ρ th' ∧ Ext th th' ∧ Rl (vals ρ th') ps l'
  | [], th, th', hm, hd => by
    cases Option.some.inj hm
    exact ⟨[], [], rfl, hd, Ext.rf, trivial⟩
  | p :: ps, th, th', hm, hd => by
    unfold mtv at hm
    cases hg : lget lv p.1 with
    | none => rw [hg] at hm; cases hm
    | some a =>
      rw [hg] at hm
      simp only at hm
      obtain ⟨q, w, g1, g2⟩ := lget_ok hl hg
      cases hc : mt s p.2 a th with
      | none => rw [hc] at hm; cases hm
      | some t1 =>
        rw [hc] at hm
        obtain ⟨d1, e1, r1⟩ := mt_ok h hc hd g2
        obtain ⟨ks, l', k1, d2, e2, r2⟩ := mtv_ok h hl hm d1
        refine ⟨q :: ks, (p.1, w) :: l', ?_, d2, e1.tr e2, ⟨rfl, r1.mono e2.pre⟩, r2⟩
        rw [← k1]
        simp [lv_pick, g1]
theorem plc_ok {th : List AV} {p q : AV} {x : Int} (h : plc th p = some q) (hx : ev ρ q = some x) : ev (vals ρ th) p = some x := by
  cases p with
  | c n => cases Option.some.inj h; exact hx
  | i id o =>
    simp only [plc] at h
    cases hc : ile o 0 && ile 0 o with
    | false => rw [hc] at h; cases h
    | true =>
      rw [hc] at h
      simp only [Bool.and_eq_true] at hc
      have ho : o = 0 := ile_eq hc
      subst ho
      simp only [ev, vals_at h hx, Int.add_zero]
  | _ => cases h
theorem mtm_ok (h : Ok J s ρ σ) : ∀ {es : List (Nat × (AV × AV))} {th th' : List AV}, mtm s es th = some th' → Df ρ th → Df ρ th' ∧ Ext th th' ∧ ∀ e ∈ es, Mf (vals ρ th') σ e
  | [], th, th', hm, hd => by
    cases Option.some.inj hm
    exact ⟨hd, Ext.rf, fun e he => by cases he⟩
  | e :: es, th, th', hm, hd => by
    unfold mtm at hm
    cases hp : plc th e.2.1 with
    | none => rw [hp] at hm; cases hm
    | some p =>
      rw [hp] at hm
      simp only at hm
      cases hg : mget s.me e.1 p with
      | none => rw [hg] at hm; cases hm
      | some w =>
        rw [hg] at hm
        simp only at hm
        cases hc : mt s e.2.2 w th with
        | none => rw [hc] at hm; cases hm
        | some t1 =>
          rw [hc] at hm
          obtain ⟨j, j1, j2⟩ := h.me _ (mget_mem hg)
          have key : Df ρ t1 ∧ Ext th t1 ∧ ((e.2.2.isI = true ∧ ev (vals ρ t1) e.2.2 = some (σ.1 e.1 j).toInt) ∨ (e.2.2.isL = true ∧ ev (vals ρ t1) e.2.2 = some (σ.2 e.1 j).toInt)) := by
            rcases j2 with ⟨j2, j3⟩ | ⟨j2, j3⟩
            · obtain ⟨d1, e1, r1⟩ := mt_ok h hc hd (Rv.of_int j2 j3)
              exact ⟨d1, e1, Or.inl r1.isI⟩
            · obtain ⟨d1, e1, r1⟩ := mt_ok h hc hd (Rv.of_long j2 j3)
              exact ⟨d1, e1, Or.inr r1.isL⟩
          obtain ⟨d1, e1, r1⟩ := key
          obtain ⟨d2, e2, r2⟩ := mtm_ok h hm d1
          refine ⟨d2, e1.tr e2, fun e' he => ?_⟩
          rcases List.mem_cons.mp he with rfl | he
          · refine Mf.mono e2.pre ⟨j, ev.mono e1.pre (plc_ok hp j1), r1⟩
          · exact r2 e' he
theorem mte_ok (h : Ok J s ρ σ) {th : List AV} {env : List (Nat × Dom)} (hm : mte s th env = true) (hd : Df ρ th) : ∀ e ∈ env, ∃ x, (vals ρ th)[e.1]? = some x ∧ inD x e.2 := by
  intro e he
  have h1 := List.all_eq_true.mp hm e he
  cases ht : th[e.1]? with
  | none => rw [ht] at h1; cases h1
  | some a =>
    rw [ht] at h1
    simp only at h1
    rcases hd a (List.mem_of_getElem? ht) with ⟨q, y, hy⟩ | ⟨q, y, hy⟩
    · exact ⟨_, vals_at ht hy, dsub_in h1 (dom_i h q hy)⟩
    · exact ⟨_, vals_at ht hy, dsub_in h1 (dom_l h q hy)⟩
/-- sums -/
def tev (ρ : List Int) : List (Nat × Int) → Int
  | [] => 0
  | t :: r => t.2 * ρ.getD t.1 0 + tev ρ r
theorem tad_ok {id : Nat} {c : Int} : ∀ {T : List (Nat × Int)}, tev ρ (tad id c T) = tev ρ T + c * ρ.getD id 0
  | [] => by simp [tad, tev]
  | t :: r => by
    unfold tad
    cases hb : Nat.beq t.1 id with
    | true =>
      have := Nat.eq_of_beq_eq_true hb
      subst this
      simp only [cond_true, tev, Int.add_mul]
      omega
    | false =>
      simp only [cond_false, tev, tad_ok]
      omega
theorem tsub_ok {th : List AV} (hd : Df ρ th) : ∀ {mu : List (Nat × Int)} {T T' : List (Nat × Int) × Int}, tsub th mu T = some T' → tev ρ T'.1 + T'.2 = tev ρ T.1 + T.2 - tev (vals ρ th) mu
  | [], T, T', h => by
    cases Option.some.inj h
    simp [tev]
  | t :: r, T, T', h => by
    unfold tsub at h
    split at h
    · rename_i id o ht
      have h1 := tsub_ok hd h
      have hx : ∃ x, ev ρ (.i id o) = some x := by
        rcases hd _ (List.mem_of_getElem? ht) with ⟨_, y, hy⟩ | ⟨_, y, hy⟩ <;> exact ⟨_, hy⟩
      obtain ⟨x, hx⟩ := hx
      have h2 := vals_at ht hx
      have h3 : ρ.getD id 0 + o = x := by
        simp only [ev] at hx
        cases hr : ρ[id]? with
        | none => rw [hr] at hx; cases hx
        | some y =>
          rw [hr] at hx
          rw [List.getD_eq_getElem?_getD, hr]
          exact Option.some.inj hx
      have h4 : (vals ρ th).getD t.1 0 = x := by rw [List.getD_eq_getElem?_getD, h2]; rfl
      rw [h1, tad_ok]
      simp only [tev, h4]
      rw [← h3, Int.mul_add, Int.neg_mul]
      omega
    · rename_i n ht
      have h1 := tsub_ok hd h
      have h2 := vals_at (ρ := ρ) ht rfl
      have h4 : (vals ρ th).getD t.1 0 = n := by rw [List.getD_eq_getElem?_getD, h2]; rfl
      rw [h1]
      simp only [tev, h4]
      omega
    · cases h
theorem tlb_ok (h : Ok J s ρ σ) : ∀ {T : List (Nat × Int)} {z y : Int}, tlb s T z = some y → y ≤ z + tev ρ T
  | [], z, y, q => by
    cases Option.some.inj q
    simp [tev]
  | t :: r, z, y, q => by
    unfold tlb at q
    cases hc : ile t.2 0 && ile 0 t.2 with
    | true =>
      rw [hc] at q
      simp only [Bool.and_eq_true] at hc
      have h0 : t.2 = 0 := ile_eq hc
      have := tlb_ok h q
      simp only [tev, h0, Int.zero_mul]
      omega
    | false =>
      rw [hc] at q
      simp only [cond_false] at q
      cases hl : lk s.env t.1 with
      | none => rw [hl] at q; cases q
      | some d =>
        rw [hl] at q
        simp only at q
        have h1 := tlb_ok h q
        obtain ⟨x, hx, hi⟩ := h.env _ (lk_mem hl)
        have hg : ρ.getD t.1 0 = x := by rw [List.getD_eq_getElem?_getD, hx]; rfl
        have b1 := dlo_le hi
        have b2 := le_dhi hi
        dsimp only at b1 b2
        simp only [tev, hg]
        cases hp : ile 0 t.2 with
        | true =>
          rw [hp] at h1
          simp only [cond_true] at h1
          have := Int.mul_le_mul_of_nonneg_left b1 (ile_iff.mp hp)
          omega
        | false =>
          rw [hp] at h1
          simp only [cond_false] at h1
          have hn : t.2 ≤ 0 := by
            have : ¬ 0 ≤ t.2 := fun q => by rw [ile_iff.mpr q] at hp; cases hp
            omega
          have := Int.mul_le_mul_of_nonpos_right b2 hn
          rw [Int.mul_comm (dhi d), Int.mul_comm x] at this
          omega
theorem tev_neg : ∀ {T : List (Nat × Int)}, tev ρ (T.map fun t => (t.1, -t.2)) = - tev ρ T
  | [] => by simp [tev]
  | t :: r => by
    simp only [List.map_cons, tev, tev_neg, Int.neg_mul]
    omega
theorem falls_ok (h : Ok J s ρ σ) {th : List AV} (hd : Df ρ th) {mu0 mu : List (Nat × Int) × Int} (hf : falls s th mu0 mu = true) : 0 ≤ tev (vals ρ th) mu.1 + mu.2 ∧ tev (vals ρ th) mu.1 + mu.2 < tev ρ mu0.1 + mu0.2 := by
  unfold falls at hf
  rw [Bool.and_eq_true] at hf
  obtain ⟨h1, h2⟩ := hf
  constructor
  · split at h2
    · rename_i T hT
      split at h2
      · rename_i z hz
        have a1 := tsub_ok hd hT
        have a2 := tlb_ok h hz
        have a3 := ile_iff.mp h2
        rw [tev_neg] at a2
        simp only [tev] at a1
        omega
      · cases h2
    · cases h2
  · split at h1
    · rename_i T hT
      split at h1
      · rename_i z hz
        have a1 := tsub_ok hd hT
        have a2 := tlb_ok h hz
        have a3 := ile_iff.mp h1
        dsimp only at a1
        omega
      · cases h1
    · cases h1
theorem arrive_ok (h : Ok J s ρ σ) {lv : List (Nat × AV)} {st : List AV} {l : List (Nat × Value)} {v : List Value} {mu0 : List (Nat × Int) × Int} {a : An} (hl : Rl ρ lv l) (hs : Rs ρ st v) (ha : arrive s lv st mu0 a = true) : ∃ (ρ' : List Int) (l' : List (Nat × Value)) (ks : List Nat), lv_pick l ks = l' ∧ Ok J a.sy ρ' σ ∧ Rl ρ' a.lv l' ∧ Rs ρ' a.st v ∧ 0 ≤ tev ρ' a.mu.1 + a.mu.2 ∧ tev ρ' a.mu.1 + a.mu.2 < tev ρ mu0.1 + mu0.2 := by
  unfold arrive at ha
  split at ha
  · rename_i t1 h1
    split at ha
    · rename_i t2 h2
      split at ha
      · rename_i th h3
        simp only [Bool.and_eq_true] at ha
        obtain ⟨ks, l', k1, d1, e1, r1⟩ := mtv_ok h hl h1 (fun b hb => by cases hb)
        obtain ⟨d2, e2, r2⟩ := mtl_ok h h2 d1 hs
        obtain ⟨d3, e3, r3⟩ := mtm_ok h h3 d2
        obtain ⟨f1, f2⟩ := falls_ok h d3 ha.2
        refine ⟨vals ρ th, l', ks, k1, ⟨?_, mte_ok h ha.1.2 d3, r3, fun e he => (by cases he), h.inv⟩, r1.mono (e2.tr e3).pre, r2.mono e3.pre, f1, f2⟩
        simp [vals, An.sy, Nat.eq_of_beq_eq_true ha.1.1]
      · cases ha
    · cases ha
  · cases ha
end E8
