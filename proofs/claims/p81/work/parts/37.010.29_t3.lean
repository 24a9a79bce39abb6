noncomputable section
noncomputable def ktHL9 (G : Gx) (C : Pc) (D : Nat → Bool) (n : Nat) (mu0 : Lf × Int) (rm : Bool) (mf : List Fm) (mr : Option AV) : Kont := fun s mm hf hr => bif rm || (isNil hf && !(isNil mf)) then walkPL9 G (dN D, (C.hint, (C.cm, C.sm))) (ktM G C mu0 hf hr) n s mm mf else met2 G C mu0 s hf hr mf mr
noncomputable def chk2L9 (G : Gx) (C : Pc) (D : Nat → Bool) (n : Nat) (a : A2) : Bool := bif a.rh then (isNil a.mr.toList || isNil a.mf) && walkPL9 G (D, (C.hint, (C.ch, C.sh))) (ktHL9 G C D n a.mu a.rm a.mf a.mr) n a.kn.sy [] a.hf else walkPL9 G (dN D, (C.hint, (C.cm, C.sm))) (ktM G C a.mu a.hf a.hr) n a.kn.sy [] a.mf
section P10
variable {E : xV} {Y : Nat → xY} {G : Gx} {J : Jt} {D : Nat → Bool} {C : Pc} {K2 : K2t}
theorem chk2_okL9 (hG : GxOk Y G) (hJ : POk G.g G.P J) (hX : HObL9 G J) (hT : ScT E Y J (D, (C.hint, (C.ch, C.sh))) ∧ ScT E Y J (dN D, (C.hint, (C.cm, C.sm)))) (hF : F2 J G C K2) {n : Nat} {a : A2} (h : chk2L9 G C D n a = true) (hs : sdOk a = true) {ρ : List Int} {σ : zS} {hc mc : List CF} {hv mv : Option Value} {m : Int} (hk : Ko J a.kn ρ σ) (h1 : Rg ρ a.hf hc) (h2 : Ra ρ a.hr hv) (h3 : Rg ρ a.mf mc) (h4 : Ra ρ a.mr mv) (hm : tvo ρ a.mu.1 = some m) (hI : I2 E Y J D C K2 (m + a.mu.2)) : PP E Y D hc hv mc mv σ K2 := by
  unfold sdOk at hs
  rw [Bool.and_eq_true, Bool.or_eq_true, Bool.or_eq_true] at hs
  have n1 : hc ≠ [] → hv = none := fun q => by
    rcases hs.1 with e | e
    · rw [isNil_e e] at h1; exact absurd h1.nil q
    · cases hr : a.hr with
      | none => rw [hr] at h2; exact Ra_none h2
      | some _ => rw [hr] at e; cases e
  have n2 : mc ≠ [] → mv = none := fun q => by
    rcases hs.2 with e | e
    · rw [isNil_e e] at h3; exact absurd h3.nil q
    · cases hr : a.mr with
      | none => rw [hr] at h4; exact Ra_none h4
      | some _ => rw [hr] at e; cases e
  unfold chk2L9 at h
  have nn : ∀ {D' : Nat → Bool} {Q : Qt}, QLp E Y D' Q → True := fun _ => trivial
  cases hrh : a.rh with
  | true =>
    rw [hrh] at h
    simp only [cond_true, Bool.and_eq_true] at h
    have hmn : mc ≠ [] → mv = none := n2
    -- H first
    have hh : PP E Y D hc none mc mv σ K2 := by
      refine walkP_okL9 (E := E) (V := (D, (C.hint, (C.ch, C.sh)))) (Q := fun cs rv σ => (cs ≠ [] → rv = none) → PP E Y D cs rv mc mv σ K2) (ρ1 := ρ) hG hJ hX ?_ hT.1 ?_ n a.kn.sy [] a.hf ρ σ hc h.2 Pre.rf hk.1 (fun e he => by cases he) h1 (fun _ => rfl)
      · refine ⟨fun c cs f fs σ σ' q1 q2 q3 _ => PP.qlH.1 c cs f fs σ σ' q1 q2 (q3 (fun _ => rfl)), fun c cs r σ q1 q3 _ => PP.qlH.2 c cs r σ q1 (q3 (fun q => absurd rfl q))⟩
      · intro s mm hf hr ρ' σ' cs rv g1 g2 g3 g4 g5 g6 g7
        unfold ktHL9 at g1
        cases hrm : (a.rm || (isNil hf && !(isNil a.mf))) with
        | false =>
          rw [hrm] at g1
          exact met2_ok hJ hF hI g1 g3 g5 g6 (h3.mono g2) (h4.mono g2) (tvo.mono g2 hm) g7 n2
        | true =>
          rw [hrm] at g1
          simp only [cond_true] at g1
          have hmm : PP E Y D cs rv mc none σ' K2 := by
            refine walkP_okL9 (E := E) (V := (dN D, (C.hint, (C.cm, C.sm)))) (Q := fun cs' rv' σ => (cs' ≠ [] → rv' = none) → PP E Y D cs rv cs' rv' σ K2) (ρ1 := ρ') hG hJ hX ?_ hT.2 ?_ n s mm a.mf ρ' σ' mc g1 Pre.rf g3 g4 (h3.mono g2) (fun _ => rfl)
            · refine ⟨fun c cs f fs σ σ' q1 q2 q3 _ => PP.qlM.1 c cs f fs σ σ' q1 q2 (q3 (fun _ => rfl)), fun c cs r σ q1 q3 _ => PP.qlM.2 c cs r σ q1 (q3 (fun q => absurd rfl q))⟩
            · intro s2 mm2 mf2 mr2 ρ2 σ2 cs2 rv2 w1 w2 w3 w4 w5 w6 w7
              exact met2_ok hJ hF hI w1 w3 (g5.mono w2) (g6.mono w2) w5 w6 (tvo.mono (g2.tr w2) hm) g7 w7
          have hmv : mv = none := by
            rcases Bool.or_eq_true _ _ ▸ h.1 with e | e
            · cases hr : a.mr with
              | none => rw [hr] at h4; exact Ra_none h4
              | some _ => rw [hr] at e; cases e
            · cases n with
              | zero => cases g1
              | succ n =>
                rw [isNil_e e] at g1
                cases g1
          rw [hmv]
          exact hmm
    have hhv : hv = none := by
      refine n1 (fun e => ?_)
      rw [e] at h1
      cases hf : a.hf with
      | nil =>
        have := h.2
        rw [hf] at this
        cases n with
        | zero => cases this
        | succ n => cases this
      | cons _ _ => rw [hf] at h1; exact h1.elim
    rw [hhv]
    exact hh
  | false =>
    rw [hrh] at h
    simp only [cond_false] at h
    have hmm : PP E Y D hc hv mc none σ K2 := by
      refine walkP_okL9 (E := E) (V := (dN D, (C.hint, (C.cm, C.sm)))) (Q := fun cs' rv' σ => (cs' ≠ [] → rv' = none) → PP E Y D hc hv cs' rv' σ K2) (ρ1 := ρ) hG hJ hX ?_ hT.2 ?_ n a.kn.sy [] a.mf ρ σ mc h Pre.rf hk.1 (fun e he => by cases he) h3 (fun _ => rfl)
      · refine ⟨fun c cs f fs σ σ' q1 q2 q3 _ => PP.qlM.1 c cs f fs σ σ' q1 q2 (q3 (fun _ => rfl)), fun c cs r σ q1 q3 _ => PP.qlM.2 c cs r σ q1 (q3 (fun q => absurd rfl q))⟩
      · intro s2 mm2 mf2 mr2 ρ2 σ2 cs2 rv2 w1 w2 w3 w4 w5 w6 w7
        exact met2_ok hJ hF hI w1 w3 (h1.mono w2) (h2.mono w2) w5 w6 (tvo.mono w2 hm) n1 w7
    have hmv : mv = none := by
      refine n2 (fun e => ?_)
      rw [e] at h3
      cases hf : a.mf with
      | nil =>
        rw [hf] at h
        cases n with
        | zero => cases h
        | succ n => cases h
      | cons _ _ => rw [hf] at h3; exact h3.elim
    rw [hmv]
    exact hmm
theorem all2_okL9 (hG : GxOk Y G) (hJ : POk G.g G.P J) (hX : HObL9 G J) (hT : ScT E Y J (D, (C.hint, (C.ch, C.sh))) ∧ ScT E Y J (dN D, (C.hint, (C.cm, C.sm)))) (hF : F2 J G C K2) {n : Nat} (h : ∀ a ∈ C.an, chk2L9 G C D n a = true ∧ sdOk a = true) : ∀ N : Nat, I2 E Y J D C K2 (N : Int)
  | 0 => fun a _ ρ σ hc mc hv mv m _ _ _ _ _ _ q1 q2 => by omega
  | N + 1 => fun a ha ρ σ hc mc hv mv m k1 k2 k3 k4 k5 k6 k7 k8 => by
    refine chk2_okL9 hG hJ hX hT hF (h a ha).1 (h a ha).2 k1 k2 k3 k4 k5 k6 (fun b hb ρ' σ' hc' mc' hv' mv' m' g1 g2 g3 g4 g5 g6 g7 g8 => ?_)
    exact all2_okL9 hG hJ hX hT hF h N b hb ρ' σ' hc' mc' hv' mv' m' g1 g2 g3 g4 g5 g6 g7 (by omega)
/-- both methods from their beginnings -/
theorem root2_okL9 (hG : GxOk Y G) (hJ : POk G.g G.P J) (hX : HObL9 G J) (hT : ScT E Y J (D, (C.hint, (C.ch, C.sh))) ∧ ScT E Y J (dN D, (C.hint, (C.cm, C.sm)))) (hF : F2 J G C K2) {n : Nat} (h : ∀ a ∈ C.an, chk2L9 G C D n a = true ∧ sdOk a = true) {zH zM : Nat} {arH arM : List AV} {kn : Kn} {big : Nat} {fl : Bool × Bool} (hr : chk2L9 G C D n (([⟨zH, 0, argLv 0 arH, []⟩], none), (([⟨zM, 0, argLv 0 arM, []⟩], none), (kn, (([], (big : Int)), fl)))) = true) (eH : entOk G zH arH = true) (eM : entOk G zM arM = true) {ρ : List Int} {σ : zS} {avH avM : List Value} (hk : Ko J kn ρ σ) (h1 : Rs ρ arH avH) (h2 : Rs ρ arM avM) : ∃ rH σ1 rM σ2, K2 rH rM σ2 ∧ (∀ K : zKt, K rH σ1 → Cz E (Y zH) avH σ K) ∧ ∀ K : zKt, K rM σ2 → Cz E (Y zM) avM σ1 K := by
  have hI := all2_okL9 (E := E) (Y := Y) hG hJ hX hT hF h big
  have hp := chk2_okL9 (E := E) (Y := Y) (m := 0) (hc := [(zH, (0, (lv_args 0 avH, [])))]) (mc := [(zM, (0, (lv_args 0 avM, [])))]) (hv := none) (mv := none) hG hJ hX hT hF hr rfl hk ⟨⟨⟨rfl, rfl⟩, argLv_ok h1, trivial⟩, trivial⟩ trivial ⟨⟨⟨rfl, rfl⟩, argLv_ok h2, trivial⟩, trivial⟩ trivial rfl (fun b hb ρ' σ' hc' mc' hv' mv' m' g1 g2 g3 g4 g5 g6 g7 g8 => hI b hb ρ' σ' hc' mc' hv' mv' m' g1 g2 g3 g4 g5 g6 g7 (by dsimp only at g8; omega))
  obtain ⟨rH, σ1, rM, σ2, ⟨a1, a2⟩, ⟨b1, b2⟩, k⟩ := hp
  obtain ⟨e1, e2⟩ := entOk_ok hG eH
  obtain ⟨e3, e4⟩ := entOk_ok hG eM
  refine ⟨rH, σ1, rM, σ2, k, fun K q => ?_, fun K q => ?_⟩
  · refine z_entry e1 (fun a => by rw [sl_len, cats_ok h1]; exact e2) rfl ?_
    have := a2 σ K (by rw [mix_self a1]; exact q)
    rw [mix_self agD.rf] at this
    exact this
  · refine z_entry e3 (fun a => by rw [sl_len, cats_ok h2]; exact e4) rfl ?_
    have := b2 σ1 K (by rw [mix_self b1]; exact q)
    rw [mix_self agD.rf] at this
    exact this
end P10
end
