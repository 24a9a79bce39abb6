section
/-! ===== N51: the log's table: J with the logs, J without ===== -/
theorem CSK_app {g : zS} : CSK g = CSB ++ [cLG g] := rfl
theorem CS_appB : CS = CSB ++ CS.drop 8 := rfl
theorem apt_get {x : Cp} : ∀ {A : List Cp}, Apt (A ++ [x]) → ∀ c ∈ A, ∀ t, c.tg t = true → x.tg t = false
  | [], _, _, h, _, _ => by cases h
  | _ :: _, ⟨h1, h2⟩, c, hc, t, ht => by
    rcases List.mem_cons.mp hc with rfl | hc
    · exact h1 x (List.mem_append_right _ (List.mem_cons_self ..)) t ht
    · exact apt_get h2 c hc t ht
theorem tgB {c : Cp} (hc : c ∈ CSB) {t : Nat} (ht : c.tg t = true) : t < 1500 ∨ 1515 ≤ t := by
  have h9 : Apt (CSB ++ [cLG σ00]) := by rw [← CSK_app]; exact CS_aptK
  have h := apt_get h9 c hc t ht
  have h : (Nat.ble 1500 t && Nat.ble t 1514) = false := h
  by_cases q1 : 1500 ≤ t
  · by_cases q2 : t ≤ 1514
    · rw [Nat.ble_eq_true_of_le q1, Nat.ble_eq_true_of_le q2] at h
      cases h
    · exact Or.inr (by omega)
  · exact Or.inl (by omega)
theorem lkG {H : List (Nat × Int)} (hb : ∀ e ∈ H, 1500 ≤ e.1 ∧ e.1 ≤ 1514) {t : Nat} (ht : t < 1500 ∨ 1515 ≤ t) : lk H t = none := by
  cases h : lk H t with
  | none => rfl
  | some x => have := hb _ (lk_mem h); dsimp only at this; omega
section N51
variable {g σ ρ : zS} {H : List (Nat × Int)}
theorem jkB (h : JJK g H σ) (hb : ∀ e ∈ H, 1500 ≤ e.1 ∧ e.1 ≤ 1514) : JJB [] σ :=
  ⟨h.1, fun r R hr j hj _ => h.2.1 r R hr j hj (by rw [lkG hb (Or.inl (by have := (wf_row TJ_wf hr).1; omega))]; intro q; cases q), fun c hc => (CS_okB c hc).dep H [] σ σ (fun t ht => (show (none : Option Int) = lk H t from (lkG hb (tgB hc ht)).symm)) (fun _ _ => rfl) (h.2.2 c (by rw [CSK_app]; exact List.mem_append_left _ hc))⟩
theorem jkU (h : JJB [] σ) (hS : lgS g H σ) (hb : ∀ e ∈ H, 1500 ≤ e.1 ∧ e.1 ≤ 1514) : JJK g H σ :=
  ⟨h.1, fun r R hr j hj _ => h.2.1 r R hr j hj (by intro q; cases q), fun c hc => by
    rw [CSK_app] at hc
    rcases List.mem_append.mp hc with hc | hc
    · exact (CS_okB c hc).dep [] H σ σ (fun t ht => lkG hb (tgB hc ht)) (fun _ _ => rfl) (h.2.2 c hc)
    · rcases List.mem_cons.mp hc with rfl | hc
      · exact hS
      · cases hc⟩
theorem jkK (h : JJB [] σ) : JJK σ [] σ := jkU h (Or.inl ⟨rfl, rfl, LgH.rf, LgM.rf⟩) (fun e he => by cases he)
theorem jbJ (h : JJ [] σ) : JJB [] σ := ⟨h.1, h.2.1, fun c hc => h.2.2 c (by rw [CS_appB]; exact List.mem_append_left _ hc)⟩
theorem lgK (h : JJK g H σ) : lgS g H σ := h.2.2 _ mcGK
theorem lgK0 (h : JJK g [] σ) : LgH g σ ∧ LgM g σ := by
  rcases lgK h with ⟨_, _, a, b⟩ | ⟨_, _, _, _, _, _, q, _⟩ | ⟨_, _, _, _, _, _, _, q, _⟩
  · exact ⟨a, b⟩
  · exact absurd (show (none : Option Int) = some _ from q.1) (by intro z; cases z)
  · exact absurd (show (none : Option Int) = some _ from q.1) (by intro z; cases z)
theorem hl_nil {R : List Int} (h : Hl R [] H) : H = [] := by
  cases H with
  | nil => rfl
  | cons _ _ => exact h.elim
theorem hl_cons {R : List Int} {t : Nat} {a : AV} {r : List (Nat × AV)} (h : Hl R ((t, a) :: r) H) {x : Int} (e : ev R a = some x) : ∃ H', H = (t, x) :: H' ∧ Hl R r H' := by
  cases H with
  | nil => exact h.elim
  | cons p H' =>
    obtain ⟨⟨h1, h2⟩, h3⟩ := h
    have h2 : ev R a = some p.2 := h2
    have h1 : t = p.1 := h1
    rw [e] at h2
    have h2 := Option.some.inj h2
    exact ⟨H', by rw [h1, h2], h3⟩
theorem fld_inB (h : JJB [] σ) {k j : Nat} {d : Dom} (hb : bdIn k j d = true) : inD (σ.1 k j).toInt d := by
  unfold bdIn at hb
  rw [Bool.and_eq_true] at hb
  refine dsub_in hb.2 (h.1 k j ?_)
  have hb1 := hb.1
  cases hk : GG.ka.get k with
  | none =>
    rw [hk] at hb1
    exact Or.inl ⟨hk, Nat.le_of_ble_eq_true hb1⟩
  | some e =>
    rw [hk] at hb1
    exact Or.inr ⟨e.1, e.2, hk, Nat.le_of_ble_eq_true hb1⟩
theorem logH_of (h : JJB [] σ) : ∃ L : Nat, (σ.1 0 7).toInt = (L : Int) ∧ L ≤ 300 := by
  have b := inD_one (fld_inB h (k := 0) (j := 7) (d := [(0, 300)]) (by decide +kernel))
  exact ⟨(σ.1 0 7).toInt.toNat, by omega, by omega⟩
theorem logM_of (h : JJB [] σ) : ∃ L : Nat, (σ.1 110 3).toInt = (L : Int) ∧ L ≤ 300 := by
  have b := inD_one (fld_inB h (k := 110) (j := 3) (d := [(0, 300)]) (by decide +kernel))
  exact ⟨(σ.1 110 3).toInt.toNat, by omega, by omega⟩
theorem FrHa.lgM (h : FrHa true σ ρ) : LgM σ ρ := ⟨h.k 110 0 (by omega) (by omega) (by omega), h.k 110 3 (by omega) (by omega) (by omega), fun j _ => h.k 112 j (by omega) (by omega) (by omega), fun j _ => h.k 113 j (by omega) (by omega) (by omega)⟩
theorem FrMa.lgH (h : FrMa true σ ρ) : LgH σ ρ := by
  have e : ∀ k j, k = 0 ∨ k = 4 → ρ.1 k j = σ.1 k j := fun k j q => h.1 k j (by omega) (by omega) (by omega) (by omega) (by omega) (fun _ => by omega)
  exact ⟨e 0 2 (by omega), e 0 7 (by omega), fun j _ => e 4 j (by omega)⟩
theorem ctk_H {E : xV} : CtOk E Yf GXK (JJK g) 109 ct_H_writeLogK := by
  intro ρ' σ av hk hr
  obtain ⟨H, hl, hJ⟩ := hk.1.inv
  have hH : H = [] := hl_nil (show Hl ρ' [] H from hl)
  subst hH
  have jb : JJB [] σ := jkB hJ (fun e he => by cases he)
  obtain ⟨hh, hm⟩ := lgK0 hJ
  have h1 := all_ctB (E := E) 109 ct_H_writeLogB rfl ρ' σ av ⟨⟨hk.1.len, hk.1.env, hk.1.me, hk.1.cg, hk.1.df, hk.1.fa, ⟨[], trivial, jb⟩⟩, hk.2⟩ hr
  have hr : Rs ρ' [.r 0, .i 0 0, .i 1 0, .i 2 0, .i 3 0, .i 4 0] av := hr
  obtain ⟨w0, l0, rfl, q0, hr⟩ := hr.cons
  obtain ⟨w1, l1, rfl, q1, hr⟩ := hr.cons
  obtain ⟨w2, l2, rfl, q2, hr⟩ := hr.cons
  obtain ⟨w3, l3, rfl, q3, hr⟩ := hr.cons
  obtain ⟨w4, l4, rfl, q4, hr⟩ := hr.cons
  obtain ⟨w5, l5, rfl, q5, hr⟩ := hr.cons
  have hr := hr.nil
  subst hr
  have q0 : w0 = .ref 0 := q0
  subst q0
  obtain ⟨a1, rfl, e1⟩ := q1.int rfl
  obtain ⟨a2, rfl, e2⟩ := q2.int rfl
  obtain ⟨a3, rfl, e3⟩ := q3.int rfl
  obtain ⟨a4, rfl, e4⟩ := q4.int rfl
  obtain ⟨a5, rfl, e5⟩ := q5.int rfl
  obtain ⟨L, hL, hL3⟩ := logH_of jb
  have h2 : Cz E (Yf 109) [.ref 0, .int a1, .int a2, .int a3, .int a4, .int a5] σ (fun _ s => LwH L a1 a2 a3 a4 a5 σ s ∧ FrHa true σ s) := (sF_H_writeLog (Q := fun _ s => LwH L a1 a2 a3 a4 a5 σ s ∧ FrHa true σ s) (w_writeLogX (ω := true) hL hL3 (fun τ f w => ⟨w, f⟩)) (fun v s q => q) : Cz E Y_H_writeLog [.ref 0, .int a1, .int a2, .int a3, .int a4, .int a5] σ (fun _ s => LwH L a1 a2 a3 a4 a5 σ s ∧ FrHa true σ s))
  refine (Cz.and h1 h2 (fun v s q i e => ?_)).mono (fun v s q => ?_)
  · obtain ⟨_, al, f2, ρ1, f3, f4, f5⟩ := q
    rcases List.mem_cons.mp f2 with rfl | f2
    · subst e
      exact (show False from f5).elim
    · cases f2
  · obtain ⟨⟨f1, al, f2, ρ1, f3, f4, f5⟩, τ, ag, w, fr⟩ := q
    rcases List.mem_cons.mp f2 with rfl | f2
    · obtain ⟨H0, hl0, jb0⟩ := f4.1.inv
      have hH0 : H0 = [] := hl_nil (show Hl ρ1 [] H0 from hl0)
      subst hH0
      have hS : lgS g [(1500, a1.toInt), (1501, a2.toInt), (1502, a3.toInt), (1503, a4.toInt), (1504, a5.toInt)] s := Or.inr (Or.inl ⟨L, a1, a2, a3, a4, a5, ⟨rfl, rfl, rfl, rfl, rfl⟩, rfl, by rw [← hh.2.1]; exact hL, (w.sm.cg (fun _ _ q => ag_cG ag.sy q)).be hh, hm.tr (fr.lgM.cg (fun _ _ q => ag_cG ag.sy q))⟩)
      have jk := jkU jb0 hS (fun e he => by
        rcases List.mem_cons.mp he with rfl | he; · exact ⟨Nat.le_of_ble_eq_true rfl, Nat.le_of_ble_eq_true rfl⟩
        rcases List.mem_cons.mp he with rfl | he; · exact ⟨Nat.le_of_ble_eq_true rfl, Nat.le_of_ble_eq_true rfl⟩
        rcases List.mem_cons.mp he with rfl | he; · exact ⟨Nat.le_of_ble_eq_true rfl, Nat.le_of_ble_eq_true rfl⟩
        rcases List.mem_cons.mp he with rfl | he; · exact ⟨Nat.le_of_ble_eq_true rfl, Nat.le_of_ble_eq_true rfl⟩
        rcases List.mem_cons.mp he with rfl | he; · exact ⟨Nat.le_of_ble_eq_true rfl, Nat.le_of_ble_eq_true rfl⟩
        cases he)
      have g1 : GXB.g = GG := rfl
      have g2 : GXK.g = GG := rfl
      rw [g1] at f1
      refine ⟨?_, _, List.mem_cons_self .., ρ1, f3, ⟨⟨f4.1.len, f4.1.env, f4.1.me, f4.1.cg, f4.1.df, f4.1.fa, ⟨_, ?_, jk⟩⟩, f4.2⟩, f5⟩
      · rw [g2]
        exact f1
      · exact ⟨⟨rfl, ev.mono f3 e1⟩, ⟨rfl, ev.mono f3 e2⟩, ⟨rfl, ev.mono f3 e3⟩, ⟨rfl, ev.mono f3 e4⟩, ⟨rfl, ev.mono f3 e5⟩, trivial⟩
    · cases f2
theorem ctk_M {E : xV} : CtOk E Yf GXK (JJK g) 307 ct_M_logK := by
  intro ρ' σ av hk hr
  obtain ⟨H, hl, hJ⟩ := hk.1.inv
  have hH : H = [] := hl_nil (show Hl ρ' [] H from hl)
  subst hH
  have jb : JJB [] σ := jkB hJ (fun e he => by cases he)
  obtain ⟨hh, hm⟩ := lgK0 hJ
  have h1 := all_ctB (E := E) 307 ct_M_logB rfl ρ' σ av ⟨⟨hk.1.len, hk.1.env, hk.1.me, hk.1.cg, hk.1.df, hk.1.fa, ⟨[], trivial, jb⟩⟩, hk.2⟩ hr
  have hr : Rs ρ' [.r 110, .i 0 0, .i 1 0, .i 2 0, .i 3 0, .i 4 0] av := hr
  obtain ⟨w0, l0, rfl, q0, hr⟩ := hr.cons
  obtain ⟨w1, l1, rfl, q1, hr⟩ := hr.cons
  obtain ⟨w2, l2, rfl, q2, hr⟩ := hr.cons
  obtain ⟨w3, l3, rfl, q3, hr⟩ := hr.cons
  obtain ⟨w4, l4, rfl, q4, hr⟩ := hr.cons
  obtain ⟨w5, l5, rfl, q5, hr⟩ := hr.cons
  have hr := hr.nil
  subst hr
  have q0 : w0 = .ref 110 := q0
  subst q0
  obtain ⟨a1, rfl, e1⟩ := q1.int rfl
  obtain ⟨a2, rfl, e2⟩ := q2.int rfl
  obtain ⟨a3, rfl, e3⟩ := q3.int rfl
  obtain ⟨a4, rfl, e4⟩ := q4.int rfl
  obtain ⟨a5, rfl, e5⟩ := q5.int rfl
  obtain ⟨L, hL, hL3⟩ := logM_of jb
  have h2 : Cz E (Yf 307) [.ref 110, .int a1, .int a2, .int a3, .int a4, .int a5] σ (fun _ s => LwM L a1 a2 a3 a4 a5 σ s ∧ FrMa true σ s) := (sF_M_log (Q := fun _ s => LwM L a1 a2 a3 a4 a5 σ s ∧ FrMa true σ s) (w_logMX (ω := true) hL hL3 (fun τ f w => ⟨w, f⟩)) (fun v s q => q) : Cz E Y_M_log [.ref 110, .int a1, .int a2, .int a3, .int a4, .int a5] σ (fun _ s => LwM L a1 a2 a3 a4 a5 σ s ∧ FrMa true σ s))
  refine (Cz.and h1 h2 (fun v s q i e => ?_)).mono (fun v s q => ?_)
  · obtain ⟨_, al, f2, ρ1, f3, f4, f5⟩ := q
    rcases List.mem_cons.mp f2 with rfl | f2
    · subst e
      exact (show False from f5).elim
    · cases f2
  · obtain ⟨⟨f1, al, f2, ρ1, f3, f4, f5⟩, τ, ag, w, fr⟩ := q
    rcases List.mem_cons.mp f2 with rfl | f2
    · obtain ⟨H0, hl0, jb0⟩ := f4.1.inv
      have hH0 : H0 = [] := hl_nil (show Hl ρ1 [] H0 from hl0)
      subst hH0
      have hS : lgS g [(1510, a1.toInt), (1511, a2.toInt), (1512, a3.toInt), (1513, a4.toInt), (1514, a5.toInt)] s := Or.inr (Or.inr ⟨L, a1, a2, a3, a4, a5, rfl, ⟨rfl, rfl, rfl, rfl, rfl⟩, by rw [← hm.2.1]; exact hL, (w.sm.cg (fun _ _ q => ag_cG ag.sy q)).be hm, hh.tr (fr.lgH.cg (fun _ _ q => ag_cG ag.sy q))⟩)
      have jk := jkU jb0 hS (fun e he => by
        rcases List.mem_cons.mp he with rfl | he; · exact ⟨Nat.le_of_ble_eq_true rfl, Nat.le_of_ble_eq_true rfl⟩
        rcases List.mem_cons.mp he with rfl | he; · exact ⟨Nat.le_of_ble_eq_true rfl, Nat.le_of_ble_eq_true rfl⟩
        rcases List.mem_cons.mp he with rfl | he; · exact ⟨Nat.le_of_ble_eq_true rfl, Nat.le_of_ble_eq_true rfl⟩
        rcases List.mem_cons.mp he with rfl | he; · exact ⟨Nat.le_of_ble_eq_true rfl, Nat.le_of_ble_eq_true rfl⟩
        rcases List.mem_cons.mp he with rfl | he; · exact ⟨Nat.le_of_ble_eq_true rfl, Nat.le_of_ble_eq_true rfl⟩
        cases he)
      have g1 : GXB.g = GG := rfl
      have g2 : GXK.g = GG := rfl
      rw [g1] at f1
      refine ⟨?_, _, List.mem_cons_self .., ρ1, f3, ⟨⟨f4.1.len, f4.1.env, f4.1.me, f4.1.cg, f4.1.df, f4.1.fa, ⟨_, ?_, jk⟩⟩, f4.2⟩, f5⟩
      · rw [g2]
        exact f1
      · exact ⟨⟨rfl, ev.mono f3 e1⟩, ⟨rfl, ev.mono f3 e2⟩, ⟨rfl, ev.mono f3 e3⟩, ⟨rfl, ev.mono f3 e4⟩, ⟨rfl, ev.mono f3 e5⟩, trivial⟩
    · cases f2
end N51
theorem rooms_okK : BT.AllP (fun r c => c.rg.1 ≠ 0 → (Yf r).2.2.2.2 = rmN 400) CTTK := ⟨⟨fun h => absurd rfl h, fun h => absurd rfl h, fun h => absurd rfl h, fun h => absurd rfl h, fun h => absurd rfl h, fun h => absurd rfl h, fun h => absurd rfl h, trivial⟩, ⟨fun h => absurd rfl h, fun h => absurd rfl h, fun h => absurd rfl h, fun h => absurd rfl h, fun h => absurd rfl h, fun h => absurd rfl h, fun h => absurd rfl h, trivial⟩, ⟨fun h => absurd rfl h, fun h => absurd rfl h, fun h => absurd rfl h, fun h => absurd rfl h, fun h => absurd rfl h, fun h => absurd rfl h, fun h => absurd rfl h, trivial⟩, ⟨fun h => absurd rfl h, fun h => absurd rfl h, fun h => absurd rfl h, fun h => absurd rfl h, fun h => absurd rfl h, fun h => absurd rfl h, fun h => absurd rfl h, trivial⟩, ⟨fun h => absurd rfl h, fun h => absurd rfl h, fun h => absurd rfl h, fun h => absurd rfl h, fun h => absurd rfl h, fun h => absurd rfl h, fun h => absurd rfl h, trivial⟩, ⟨fun h => absurd rfl h, fun h => absurd rfl h, fun h => absurd rfl h, fun h => absurd rfl h, fun h => absurd rfl h, fun h => absurd rfl h, fun h => absurd rfl h, trivial⟩, ⟨fun h => absurd rfl h, fun h => absurd rfl h, fun h => absurd rfl h, fun h => absurd rfl h, fun h => absurd rfl h, fun h => absurd rfl h, fun h => absurd rfl h, trivial⟩, ⟨fun h => absurd rfl h, fun h => absurd rfl h, fun h => absurd rfl h, fun h => absurd rfl h, fun h => absurd rfl h, trivial⟩, trivial⟩
theorem all_ctK {E : xV} {g9 : zS} : ∀ r c, GXK.ct.get r = some c → CtOk E Yf GXK (JJK g9) r c := all_ok GX_GK GX_JK GX_HK GX_FK (n := 3000) (fun r c h => rooms_okK.at h) (fun r c h => (show BT.AllP (fun r c => Chk GXK 3000 r c ∨ (c.rg.1 = 0 ∧ ((∀ z q, z < r → GXK.ct.get z = some q → CtOk E Yf GXK (JJK g9) z q) → CtOk E Yf GXK (JJK g9) r c))) CTTK from ⟨⟨Or.inl kk_H_personK, Or.inl kk_H_groupK, Or.inl kk_Wh_reachedFromK, Or.inl kk_Wh_wouldRingK, Or.inl kk_H_putK, Or.inl kk_H_backK, Or.inl kk_Wh_groupsOfK, trivial⟩, ⟨Or.inl kk_H_thingK, Or.inl kk_Th_isInsideK, Or.inl kk_H_moveK, Or.inl kk_H_cutOffK, Or.inl kk_Th_bearsAnyK, Or.inl kk_H_dropK, Or.inl kk_Th_isUnderK, trivial⟩, ⟨Or.inl kk_H_sumBehindK, Or.inr ⟨rfl, fun _ => ctk_H⟩, Or.inl kk_H_lawK, Or.inl kk_Ro_refusingGiverK, Or.inl kk_Ro_isBothOnK, Or.inl kk_Ro_doesLawHoldK, Or.inl kk_Ro_firstNotHoldingK, trivial⟩, ⟨Or.inl kk_Ro_giveRowK, Or.inl kk_H_giveK, Or.inl kk_Wh_endRowsK, Or.inl kk_H_takeK, Or.inl kk_Le_lendGivingK, Or.inl kk_Le_hasRightK, Or.inl kk_Le_weighAllK, trivial⟩, ⟨Or.inl kk_H_lendK, Or.inl kk_M_sumOfK, Or.inr ⟨rfl, fun _ => ctk_M⟩, Or.inl kk_M_personK, Or.inl kk_M_groupK, Or.inl kk_M_spreadsK, Or.inl kk_M_reachesK, trivial⟩, ⟨Or.inl kk_M_isInK, Or.inl kk_M_putK, Or.inl kk_M_backK, Or.inl kk_M_beginsK, Or.inl kk_M_thingK, Or.inl kk_M_moveK, Or.inl kk_M_cutOffK, trivial⟩, ⟨Or.inl kk_M_dropK, Or.inl kk_M_isUnderK, Or.inl kk_M_heldByK, Or.inl kk_M_isHeldK, Or.inl kk_M_lawK, Or.inl kk_M_keepsLawK, Or.inl kk_M_giverLawK, trivial⟩, ⟨Or.inl kk_M_giveK, Or.inl kk_M_takeK, Or.inl kk_M_lookAtK, Or.inl kk_M_isStandingK, Or.inl kk_M_lendK, trivial⟩, trivial⟩).at h)
section N51
variable {g σ ρ : zS} {H : List (Nat × Int)}
/-! what a call that may write a row leaves -/
theorem lgE0 {R : List Int} (h : ∃ H, Hl R [] H ∧ JJK g H ρ) : JJB [] ρ ∧ LgH g ρ ∧ LgM g ρ := by
  obtain ⟨H, hl, hJ⟩ := h
  have hH := hl_nil hl
  subst hH
  exact ⟨jkB hJ (fun e he => by cases he), lgK0 hJ⟩
theorem lgE1 {R : List Int} {a0 a1 a2 a3 a4 : AV} {k a b c d : Int32} (h : ∃ H, Hl R [(1500, a0), (1501, a1), (1502, a2), (1503, a3), (1504, a4)] H ∧ JJK g H ρ) (e0 : ev R a0 = some k.toInt) (e1 : ev R a1 = some a.toInt) (e2 : ev R a2 = some b.toInt) (e3 : ev R a3 = some c.toInt) (e4 : ev R a4 = some d.toInt) : JJB [] ρ ∧ ∃ L : Nat, (g.1 0 7).toInt = (L : Int) ∧ HwL L k a b c d g ρ ∧ LgM g ρ := by
  obtain ⟨H, hl, hJ⟩ := h
  obtain ⟨H0, rfl, hl0⟩ := hl_cons hl e0
  obtain ⟨H1, rfl, hl1⟩ := hl_cons hl0 e1
  obtain ⟨H2, rfl, hl2⟩ := hl_cons hl1 e2
  obtain ⟨H3, rfl, hl3⟩ := hl_cons hl2 e3
  obtain ⟨H4, rfl, hl4⟩ := hl_cons hl3 e4
  have hH := hl_nil hl4
  subst hH
  refine ⟨jkB hJ (fun e he => by
    rcases List.mem_cons.mp he with rfl | he; · exact ⟨Nat.le_of_ble_eq_true rfl, Nat.le_of_ble_eq_true rfl⟩
    rcases List.mem_cons.mp he with rfl | he; · exact ⟨Nat.le_of_ble_eq_true rfl, Nat.le_of_ble_eq_true rfl⟩
    rcases List.mem_cons.mp he with rfl | he; · exact ⟨Nat.le_of_ble_eq_true rfl, Nat.le_of_ble_eq_true rfl⟩
    rcases List.mem_cons.mp he with rfl | he; · exact ⟨Nat.le_of_ble_eq_true rfl, Nat.le_of_ble_eq_true rfl⟩
    rcases List.mem_cons.mp he with rfl | he; · exact ⟨Nat.le_of_ble_eq_true rfl, Nat.le_of_ble_eq_true rfl⟩
    cases he), ?_⟩
  rcases lgK hJ with ⟨q, _⟩ | ⟨L, k', a', b', c', d', ⟨t0, t1, t2, t3, t4⟩, _, q2, q3, q4⟩ | ⟨_, _, _, _, _, _, q, _⟩
  · exact absurd (show some k.toInt = none from q) (by intro z; cases z)
  · have t0 : k = k' := Int32.toInt_inj.mp (Option.some.inj (show some k.toInt = some k'.toInt from t0))
    have t1 : a = a' := Int32.toInt_inj.mp (Option.some.inj (show some a.toInt = some a'.toInt from t1))
    have t2 : b = b' := Int32.toInt_inj.mp (Option.some.inj (show some b.toInt = some b'.toInt from t2))
    have t3 : c = c' := Int32.toInt_inj.mp (Option.some.inj (show some c.toInt = some c'.toInt from t3))
    have t4 : d = d' := Int32.toInt_inj.mp (Option.some.inj (show some d.toInt = some d'.toInt from t4))
    rw [t0, t1, t2, t3, t4]
    exact ⟨L, q2, q3, q4⟩
  · exact absurd (show some k.toInt = none from q) (by intro z; cases z)
theorem lgE2 {R : List Int} {a0 a1 a2 a3 a4 : AV} {k a b c d : Int32} (h : ∃ H, Hl R [(1510, a0), (1511, a1), (1512, a2), (1513, a3), (1514, a4)] H ∧ JJK g H ρ) (e0 : ev R a0 = some k.toInt) (e1 : ev R a1 = some a.toInt) (e2 : ev R a2 = some b.toInt) (e3 : ev R a3 = some c.toInt) (e4 : ev R a4 = some d.toInt) : JJB [] ρ ∧ ∃ L : Nat, (g.1 110 3).toInt = (L : Int) ∧ MwL L k a b c d g ρ ∧ LgH g ρ := by
  obtain ⟨H, hl, hJ⟩ := h
  obtain ⟨H0, rfl, hl0⟩ := hl_cons hl e0
  obtain ⟨H1, rfl, hl1⟩ := hl_cons hl0 e1
  obtain ⟨H2, rfl, hl2⟩ := hl_cons hl1 e2
  obtain ⟨H3, rfl, hl3⟩ := hl_cons hl2 e3
  obtain ⟨H4, rfl, hl4⟩ := hl_cons hl3 e4
  have hH := hl_nil hl4
  subst hH
  refine ⟨jkB hJ (fun e he => by
    rcases List.mem_cons.mp he with rfl | he; · exact ⟨Nat.le_of_ble_eq_true rfl, Nat.le_of_ble_eq_true rfl⟩
    rcases List.mem_cons.mp he with rfl | he; · exact ⟨Nat.le_of_ble_eq_true rfl, Nat.le_of_ble_eq_true rfl⟩
    rcases List.mem_cons.mp he with rfl | he; · exact ⟨Nat.le_of_ble_eq_true rfl, Nat.le_of_ble_eq_true rfl⟩
    rcases List.mem_cons.mp he with rfl | he; · exact ⟨Nat.le_of_ble_eq_true rfl, Nat.le_of_ble_eq_true rfl⟩
    rcases List.mem_cons.mp he with rfl | he; · exact ⟨Nat.le_of_ble_eq_true rfl, Nat.le_of_ble_eq_true rfl⟩
    cases he), ?_⟩
  rcases lgK hJ with ⟨_, q, _⟩ | ⟨_, _, _, _, _, _, _, q, _⟩ | ⟨L, k', a', b', c', d', _, ⟨t0, t1, t2, t3, t4⟩, q2, q3, q4⟩
  · exact absurd (show some k.toInt = none from q) (by intro z; cases z)
  · exact absurd (show some k.toInt = none from q) (by intro z; cases z)
  · have t0 : k = k' := Int32.toInt_inj.mp (Option.some.inj (show some k.toInt = some k'.toInt from t0))
    have t1 : a = a' := Int32.toInt_inj.mp (Option.some.inj (show some a.toInt = some a'.toInt from t1))
    have t2 : b = b' := Int32.toInt_inj.mp (Option.some.inj (show some b.toInt = some b'.toInt from t2))
    have t3 : c = c' := Int32.toInt_inj.mp (Option.some.inj (show some c.toInt = some c'.toInt from t3))
    have t4 : d = d' := Int32.toInt_inj.mp (Option.some.inj (show some d.toInt = some d'.toInt from t4))
    rw [t0, t1, t2, t3, t4]
    exact ⟨L, q2, q3, q4⟩
theorem enG9 {J : Jt} {a : Kn} {R : List Int} {i : Nat} {d : Dom} (hk : Ko J a R σ) (hm : (a.env.any fun e => Nat.beq e.1 i && e.2 == d) = true) {x : Int} (hx : ev R (.i i 0) = some x) : inD x d := by
  obtain ⟨e, he, q⟩ := List.any_eq_true.mp hm
  rw [Bool.and_eq_true] at q
  have q1 := Nat.eq_of_beq_eq_true q.1
  have q2 := eq_of_beq q.2
  obtain ⟨y, h1, h2⟩ := hk.1.env e he
  rw [q1] at h1
  rw [q2] at h2
  simp only [ev, h1] at hx
  have : y = x := by
    have := Option.some.inj hx
    omega
  rw [← this]
  exact h2
theorem rho_at {R R1 : List Int} {i : Nat} {x : Int} (hp : Pre R R1) (h : R[i]? = some x) : ev R1 (.i i 0) = some x := by
  simp only [ev, hp.at h]
  exact congrArg some (Int.add_zero _)
theorem ret_i {R : List Int} {a : AV} {v : Option Value} (h : Rs R [a] v.toList) (ha : a.isI = true) : ∃ r : Int32, v = some (.int r) ∧ ev R a = some r.toInt := by
  obtain ⟨w, l, e1, e2, e3⟩ := h.cons
  obtain ⟨r, rfl, er⟩ := e2.int ha
  have := e3.nil
  subst this
  cases v with
  | none => cases e1
  | some v => cases e1; exact ⟨r, rfl, er⟩
end N51
end
