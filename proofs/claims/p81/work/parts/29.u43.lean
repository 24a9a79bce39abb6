section
section
/-! ===== the stack that emits, and the stack ===== -/
noncomputable abbrev prG (g : GfE) : Gf := (g.1, (g.2.1, (g.2.2.1, g.2.2.2.2.map Prod.fst)))
noncomputable abbrev prA (A : AuE) : Au := (A.1, (A.2.1, (A.2.2.1, (A.2.2.2.1, (prG A.2.2.2.2.1.1, A.2.2.2.2.1.2.map prG)))))
section L25
variable {K : Tkn} {M : EmJ} {p deep : Nat} {E : List ItJ} {gs : List GfE} {A A' : AuE}
theorem dq_map {r : Nat} : ∀ {w : WtJ}, dq r (w.map Prod.fst) = (lft9 r w).map Prod.fst
  | [] => rfl
  | x :: l => by
    show (if r ≤ x.1 then dq r (l.map Prod.fst) else x.1 :: l.map Prod.fst) = (if r ≤ x.1 then lft9 r l else x :: l).map Prod.fst
    by_cases h : r ≤ x.1
    · rw [if_pos h, if_pos h]; exact dq_map
    · rw [if_neg h, if_neg h]; rfl
theorem dpt_map : ∀ {w : WtJ}, (∀ x ∈ w, wt9 x) → dpt (w.map Prod.fst) = dpE w
  | [], _ => rfl
  | x :: l, h => by
    show (if x.1 = 3 ∨ x.1 = 7 then 1 else 0) + dpt (l.map Prod.fst) = (if x.2.1 = 7 ∨ x.2.1 = 16 then 1 else 0) + dpE l
    rw [dpt_map (fun y hy => h y (List.mem_cons_of_mem _ hy))]
    have u := (h x (List.mem_cons_self ..)).2
    by_cases c : x.1 = 3 ∨ x.1 = 7
    · rw [if_pos c, if_pos (by omega)]
    · rw [if_neg c, if_neg (by omega)]
theorem lft_mem {r : Nat} : ∀ {w : WtJ} {y : Nat × ItJ}, y ∈ lft9 r w → y ∈ w
  | [], _, h => h
  | x :: l, y, h => by
    by_cases c : r ≤ x.1
    · have e : lft9 r (x :: l) = lft9 r l := if_pos c
      rw [e] at h
      exact List.mem_cons_of_mem _ (lft_mem h)
    · have e : lft9 r (x :: l) = x :: l := if_neg c
      rw [e] at h
      exact h
theorem dd_map {r : Nat} {w : WtJ} (h : ∀ x ∈ w, wt9 x) : dd r deep (w.map Prod.fst) = ddE r deep w := by
  unfold dd ddE
  rw [dq_map, dpt_map h, dpt_map (fun x hx => h x (lft_mem hx))]
theorem vd_prj {kd pa : Nat} {cd : Bool} {f : Int} {w : WtJ} (hw : ∀ x ∈ w, wt9 x) (h : vdE p deep (kd, (cd, (pa, (f, w)))) gs E = some A') : vdn p deep (kd, (cd, (pa, w.map Prod.fst))) (gs.map prG) = .inl (prA A') := by
  cases Option.some.inj h
  unfold vdn
  dsimp only
  rw [dd_map hw, dq_map]
theorem ft_prj {r : Option Int} {g : Nat → Option AuE} {g' : Nat → Oc} (h : ftE r g = some A') (hg : ∀ j, g j = some A' → g' j = .inl (prA A')) : fto r g' = .inl (prA A') := by
  cases r with
  | none => cases h
  | some i =>
    cases i with
    | ofNat j => exact hg j h
    | negSucc j => cases h
theorem wan_prj {st : Bool} {kd pa : Nat} {cd : Bool} {f : Int} {w : WtJ} (hw : ∀ x ∈ w, wt9 x) (h : wanE K M st p deep (kd, (cd, (pa, (f, w)))) gs E = some A') : wan K st p deep (kd, (cd, (pa, w.map Prod.fst))) (gs.map prG) = .inl (prA A') := by
  unfold wanE at h
  unfold wan
  dsimp only at h ⊢
  by_cases c1 : st = true ∧ K.c p = 1
  · rw [if_pos c1] at h ⊢
    by_cases d : deep = 20
    · rw [if_pos d] at h; cases h
    · rw [if_neg d] at h ⊢; cases Option.some.inj h; rfl
  rw [if_neg c1] at h ⊢
  by_cases c2 : st = true ∧ K.c p = 2
  · rw [if_pos c2] at h ⊢
    refine ft_prj h (fun j q => ?_)
    cases Option.some.inj q; rfl
  rw [if_neg c2] at h ⊢
  by_cases c3 : K.c p = 3
  · rw [if_pos c3] at h ⊢
    by_cases d : deep = 20
    · rw [if_pos d] at h; cases h
    · rw [if_neg d] at h ⊢; cases Option.some.inj h; rfl
  rw [if_neg c3] at h ⊢
  by_cases c4 : K.c p = 4
  · rw [if_pos c4] at h ⊢
    by_cases d : deep = 20
    · rw [if_pos d] at h; cases h
    · rw [if_neg d] at h ⊢; cases Option.some.inj h; rfl
  rw [if_neg c4] at h ⊢
  by_cases c5 : K.c p = 5 ∨ K.c p = 6
  · rw [if_pos c5] at h ⊢
    exact vd_prj hw h
  rw [if_neg c5] at h ⊢
  by_cases c7 : K.c p = 7
  · rw [if_pos c7] at h ⊢
    exact ft_prj h (fun j q => vd_prj hw q)
  rw [if_neg c7] at h ⊢
  refine ft_prj h (fun j q => ?_)
  by_cases c9 : K.c j = 9
  · rw [if_pos c9] at q ⊢
    by_cases d : deep = 20
    · rw [if_pos d] at q; cases q
    · rw [if_neg d] at q ⊢; cases Option.some.inj q; rfl
  · rw [if_neg c9] at q ⊢
    exact vd_prj hw q
theorem cls_prj {kd pa : Nat} {cd : Bool} {f : Int} {w : WtJ} (hw : ∀ x ∈ w, wt9 x) (hs : ∀ g ∈ gs, ∀ x ∈ g.2.2.2.2, wt9 x) (h : clsE K p deep (kd, (cd, (pa, (f, w)))) gs E = some A') : cls9 K p deep (kd, (cd, (pa, w.map Prod.fst))) (gs.map prG) = .inl (prA A') := by
  cases gs with
  | nil => cases h
  | cons g2 gs2 =>
    unfold clsE at h
    show cls9 K p deep (kd, (cd, (pa, w.map Prod.fst))) (prG g2 :: gs2.map prG) = _
    unfold cls9
    dsimp only at h ⊢
    rw [dd_map hw]
    by_cases c : kd = 1 ∧ 0 < pa
    · rw [if_pos c] at h ⊢; cases Option.some.inj h; rfl
    · rw [if_neg c] at h ⊢
      obtain ⟨k2, cd2, pa2, f2, w2⟩ := g2
      exact vd_prj (hs _ (List.mem_cons_self ..)) h
theorem gon_prj {kd pa : Nat} {cd : Bool} {f : Int} {w : WtJ} (hw : ∀ x ∈ w, wt9 x) (hs : ∀ g ∈ gs, ∀ x ∈ g.2.2.2.2, wt9 x) (h : gonE K M p deep (kd, (cd, (pa, (f, w)))) gs E = some A') : gon K p deep (kd, (cd, (pa, w.map Prod.fst))) (gs.map prG) = .inl (prA A') := by
  unfold gonE at h
  unfold gon
  dsimp only at h ⊢
  by_cases c1 : (K.c p = 4 ∨ K.c p = 12 ∨ K.c p = 13) ∧ pa ≠ 2
  · rw [if_pos c1] at h ⊢
    cases Option.some.inj h
    rw [dd_map hw, dq_map]; rfl
  rw [if_neg c1] at h ⊢
  by_cases c2 : K.c p = 14 ∧ kd < 2 ∧ pa = 0
  · rw [if_pos c2] at h ⊢
    cases Option.some.inj h
    rw [dd_map hw, dq_map]; rfl
  rw [if_neg c2] at h ⊢
  by_cases c3 : K.c p = 15 ∧ kd < 2 ∧ pa = 0
  · rw [if_pos c3] at h ⊢
    refine ft_prj h (fun j q => ?_)
    cases Option.some.inj q
    rw [dd_map hw, dq_map]
  rw [if_neg c3] at h ⊢
  by_cases c4 : (K.c p = 16 ∨ K.c p = 17) ∧ kd < 2 ∧ 0 < pa
  · rw [if_pos c4] at h ⊢
    cases Option.some.inj h
    rw [dd_map hw, dq_map]; rfl
  rw [if_neg c4] at h ⊢
  by_cases c5 : (K.c p = 11 ∧ (kd = 2 ∨ (kd = 1 ∧ (0 < pa ∨ cd = false)))) ∨ (K.c p = 10 ∧ kd = 3)
  · rw [if_pos c5] at h ⊢
    exact cls_prj hw hs h
  · rw [if_neg c5] at h; cases h
theorem st_prj (hw : ∀ g ∈ A.2.2.2.2.1.1 :: A.2.2.2.2.1.2, ∀ x ∈ g.2.2.2.2, wt9 x) (h : stE K M A = some A') : stpA K (prA A) = .inl (prA A') := by
  obtain ⟨wa, st, p, deep, ⟨⟨kd, cd, pa, f, w⟩, gs⟩, E⟩ := A
  have h1 := hw _ (List.mem_cons_self ..)
  have h2 : ∀ g ∈ gs, ∀ x ∈ g.2.2.2.2, wt9 x := fun g hg => hw g (List.mem_cons_of_mem _ hg)
  cases wa with
  | true => exact wan_prj h1 h
  | false => exact gon_prj h1 h2 h
theorem WtR.wf {τ : zS} {b : Nat} : ∀ {l : WtJ}, WtR τ b l → ∀ x ∈ l, wt9 x
  | [], _, x, hx => absurd hx List.not_mem_nil
  | y :: l, ⟨_, w, r⟩, x, hx => by
    rcases List.mem_cons.mp hx with e | e
    · rw [e]; exact w
    · exact WtR.wf r x e
theorem GsR.wf {τ : zS} : ∀ {G : List GfE} {W : Nat}, GsR τ G W → ∀ g ∈ G, ∀ x ∈ g.2.2.2.2, wt9 x
  | [], _, _, g, hg => absurd hg List.not_mem_nil
  | y :: G, W, ⟨b, _, _, w, r⟩, g, hg => by
    rcases List.mem_cons.mp hg with e | e
    · rw [e]; exact w.wf
    · exact GsR.wf r g e
theorem StM.wf {τ : zS} {f0 B P deep dx v : Nat} {G : List GfE} (s : StM τ f0 B P deep dx G E v) : ∀ g ∈ G, ∀ x ∈ g.2.2.2.2, wt9 x := by
  obtain ⟨W, ⟨⟨_, g⟩, _⟩, _⟩ := s
  exact g.wf
end L25
/-! ===== the reference wants a value ===== -/
noncomputable def FrW (f0 : Nat) (σ τ : zS) : Prop := (∀ k j : Nat, ¬ (k = 110 ∧ (j = 46 ∨ j = 52 ∨ j = 56 ∨ j = 57 ∨ j = 60 ∨ j = 61)) → ¬ (143 ≤ k ∧ k ≤ 150) → ¬ (k = 141 ∧ f0 ≤ j) → τ.1 k j = σ.1 k j) ∧ ∀ k j : Nat, ¬ (k = 142 ∧ f0 ≤ j) → τ.2 k j = σ.2 k j
noncomputable def NxM (τ : zS) (X : Txt) (q : Nat) : Prop := ∃ e : Nat, (τ.1 110 27).toInt = (e : Int) ∧ e ≤ X.2 ∧ sk9 X e = q
noncomputable def FsM (τ : zS) (f0 B : Nat) (A : AuE) : Prop := StM τ f0 B A.2.2.1 A.2.2.2.1 0 (A.2.2.2.2.1.1 :: A.2.2.2.2.1.2) A.2.2.2.2.2 (bif A.1 then 0 else 1) ∧ ((τ.1 110 61).toInt = (bif A.1 then 1 else 0) ∧ (τ.1 110 60).toInt = (bif A.2.1 then 1 else 0)) ∧ (τ.1 110 58).toInt < 0 ∧ (A.1 = false → A.2.1 = false)
noncomputable def QwM (X : Txt) (f0 B : Nat) (A : AuE) (σ τ : zS) : Prop := (∃ A' : AuE, stE (KT9 X) (EmX X) A = some A' ∧ FrM f0 σ τ ∧ FsM τ f0 B A' ∧ NxM τ X A'.2.2.1 ∧ A.2.2.1 < A'.2.2.1 ∧ A'.2.2.1 ≤ X.2) ∨ ∃ f : Nat, stpA (KT9 X) (prA A) = flt f ∧ FrM f0 σ τ ∧ (τ.1 110 58).toInt = (f : Int)
theorem t32_0 : (0 : Int32).toInt = 0 := by decide
theorem no_tf {P : Prop} (h : true = false) : P := by cases h
section L26
variable {σ τ : zS} {X : Txt} {f0 B P p deep dx v kd pa : Nat} {cd st : Bool} {f : Int} {w : WtJ} {gs : List GfE} {E : List ItJ} {A : AuE} {Q : Unit → zS → Prop}
theorem FrX.fw {a b : zS} (h : FrX f0 a b) : FrW f0 a b := ⟨fun k j q q2 q3 => h.1 k j (by omega) q2 q3, h.2⟩
theorem FrW.m {a b : zS} (h : FrW f0 a b) : FrM f0 a b := ⟨fun k j q q2 q3 => h.1 k j (by omega) q2 q3, fun k j q _ => h.2 k j q⟩
theorem FrW.tr {a b c : zS} (h : FrW f0 a b) (h' : FrW f0 b c) : FrW f0 a c := ⟨fun k j q q2 q3 => (h'.1 k j q q2 q3).trans (h.1 k j q q2 q3), fun k j q => (h'.2 k j q).trans (h.2 k j q)⟩
theorem FrW.i {a b : zS} {j : Nat} {x : Int32} (hj : j = 60 ∨ j = 61) (e : zI a 110 j x = b) : FrW f0 a b := ⟨fun k' j' q q2 _ => by rw [← e, yI_ne (by omega)], fun k' j' _ => by rw [← e, yI_l]⟩
theorem w_valueM (s : StM τ f0 B P deep 0 ((kd, (cd, (pa, (f, w)))) :: gs) E 1) (k : ∀ τ', FrW f0 τ τ' → StM τ' f0 B P (ddE 7 deep w) 0 ((kd, (cd, (pa, (f, lft9 7 w)))) :: gs) (E ++ pop9 7 w) 1 → (τ'.1 110 61).toInt = 0 → (τ'.1 110 60).toInt = 0 → Q () τ') : W_M_valueDone τ Q :=
  w_reduceM 7 (by decide) s (fun s1 f1 st1 s2 e2 s3 e3 => k s3 (f1.fw.tr ((FrW.i (by omega) e2).tr (FrW.i (by omega) e3))) ((st1.eq (SmS.i (by omega) e2)).eq (SmS.i (by omega) e3)) (by rw [← e3, yI_ne (by omega), ← e2, yI_at]; decide) (by rw [← e3, yI_at]; decide))
theorem q_val {E1 : List ItJ} {j e : Nat} {τ1 : zS} (hA : stE (KT9 X) (EmX X) A = vdE j deep (kd, (cd, (pa, (f, w)))) gs E1) (fr : FrM f0 σ τ1) (s : StM τ1 f0 B j deep 0 ((kd, (cd, (pa, (f, w)))) :: gs) E1 1) (e27 : (τ1.1 110 27).toInt = (e : Int)) (he : e ≤ X.2) (hs : sk9 X e = j) (hj : A.2.2.1 < j) (hjX : j ≤ X.2) (e58 : (τ1.1 110 58).toInt < 0) (k : ∀ τ', QwM X f0 B A σ τ' → Q () τ') : W_M_valueDone τ1 (fun _ s => Q () s) :=
  w_valueM s (fun τ' fr' st' h61 h60 => k τ' (Or.inl ⟨_, hA, fr.tr fr'.m, ⟨st', ⟨h61, h60⟩, by rw [fr'.1 110 58 (by omega) (by omega) (by omega)]; exact e58, fun _ => rfl⟩, ⟨e, by rw [fr'.1 110 27 (by omega) (by omega) (by omega)]; exact e27, he, hs⟩, hj, hjX⟩))
theorem q_emv {x : ItJ} {x1 : Int32} {x2 : Int64} {j e : Nat} {τ1 : zS} (hA : stE (KT9 X) (EmX X) A = vdE j deep (kd, (cd, (pa, (f, w)))) gs (E ++ [x])) (fr : FrM f0 σ τ1) (s : StM τ1 f0 B A.2.2.1 deep 0 ((kd, (cd, (pa, (f, w)))) :: gs) E 0) (e27 : (τ1.1 110 27).toInt = (e : Int)) (he : e ≤ X.2) (hs : sk9 X e = j) (hj : A.2.2.1 < j) (hjX : j ≤ X.2) (hX : X.2 ≤ 1200) (e58 : (τ1.1 110 58).toInt < 0) (k : ∀ τ', QwM X f0 B A σ τ' → Q () τ') (e1 : x1.toInt = (x.1 : Int)) (e2 : x2.toInt = x.2) (hx : x.1 ≤ 4 ∨ x.1 = 6) (hf : x.1 = 4 ∨ x.1 = 6 → 0 ≤ x.2 ∧ x.2 ≤ 15) : W_M_emit x1 x2 τ1 (fun _ s => W_M_valueDone s (fun _ s => Q () s)) :=
  w_emitM (x := x) (v' := 1) s (by omega) e1 e2 (by omega) (fun z => hf (by omega)) (qst_p (by omega) (by omega)) (fun τ2 f2 st2 => q_val hA (fr.tr f2.x.m) (st2.le (by omega) (by omega)) (by rw [f2.1 110 27 (by omega) (by omega)]; exact e27) he hs hj hjX (by rw [f2.1 110 58 (by omega) (by omega)]; exact e58) k)
theorem w_deeperM {Q : Int32 → zS → Prop} {G : List GfE} (s : StM τ f0 B P deep dx G E v) (e29 : (τ.1 110 29).toInt = (p : Int)) (k1 : deep ≠ 20 → ∀ τ', FrX f0 τ τ' → StM τ' f0 B P (deep + 1) (dx + 1) G E v → Q 1 τ') (k0 : deep = 20 → ∀ τ', FrM f0 τ τ' → (τ'.1 110 58).toInt = (p : Int) → Q 0 τ') : W_M_deeper τ Q := by
  have s0 := s
  obtain ⟨W, ⟨_, _, a4, a5, _⟩, _⟩ := s
  refine ⟨fun c s4 e4 => k0 (by omega) s4 (FrM.i (by omega) e4) (by rw [← e4, yI_at]; exact e29), fun c => ⟨by omega, fun r2 h2 s3 e3 => k1 (by omega) s3 (FrX.i (by omega) e3) (moreM s0 (by omega) h2 e3)⟩⟩
theorem ft_rng {q : Nat} (h : ftr (KT9 X) p = okR q) : 0 ≤ ftX X p ∧ ftX X p ≤ 15 := by
  unfold ftr at h
  by_cases c8 : (KT9 X).c p = 8
  · rw [if_pos c8] at h
    by_cases c21 : (KT9 X).c ((KT9 X).n p) = 21
    · rw [if_pos c21] at h
      by_cases c22 : (KT9 X).c ((KT9 X).n ((KT9 X).n p)) = 22
      · have a := kc22.mp c22
        have a : 40 ≤ rc9 X (nx9t X (nx9t X p)) ∧ rc9 X (nx9t X (nx9t X p)) ≤ 47 := a
        unfold ftX
        split <;> omega
      · rw [if_neg c22] at h; cases h
    · rw [if_neg c21] at h; cases h
  · rw [if_neg c8] at h; cases h
theorem em_5 {x1 : Int32} (h : rc9 X p = 2 ∨ rc9 X p = 3) (tk : TkM τ X p) (h1 : x1.toInt = (rc9 X p : Int) - 2) : x1.toInt = (((EmX X).em p).1 : Int) ∧ (τ.2 110 31).toInt = ((EmX X).em p).2 ∧ ((EmX X).em p).1 ≤ 1 := by
  have rk := rc_kd (X := X) (p := p)
  have kl : kd9 X p ≤ 5 := kd9_le
  obtain ⟨r0, r1, r2, r3, r4, r5⟩ := rk
  rcases h with h | h
  · have kd : kd9 X p = 2 := by omega
    rw [em_2 h]
    refine ⟨by rw [h1, h]; show ((2 : Nat) : Int) - 2 = ((0 : Nat) : Int); decide, ?_, by show (0 : Nat) ≤ 1; decide⟩
    show (τ.2 110 31).toInt = dgV X p (fe9 X p - p) 0
    rw [tk.2.2.1 kd, nv_dg kd]
  · have kd : kd9 X p = 3 := by omega
    rw [em_3 h]
    refine ⟨by rw [h1, h]; show ((3 : Nat) : Int) - 2 = ((1 : Nat) : Int); decide, ?_, by show (1 : Nat) ≤ 1; decide⟩
    show (τ.2 110 31).toInt = rlV X p
    unfold rlV
    rw [one_eq (fun _ _ => rl_one) (tk.2.2.2.1 kd)]
/-- a feature that is a value, or is followed by [ -/
theorem w_featureM {j e : Nat} {τ1 : zS} (tx : TxM τ1 X) (hA : stE (KT9 X) (EmX X) A = if (KT9 X).c j = 9 then (if deep = 20 then none else some (true, (false, ((KT9 X).n j, (deep + 1, (((3, (false, (0, (ftX X p, [])))), (kd, (cd, (pa, (f, w)))) :: gs), E)))))) else vdE j deep (kd, (cd, (pa, (f, w)))) gs (E ++ [(4, ftX X p)])) (hU : (KT9 X).c j = 9 → deep = 20 → stpA (KT9 X) (prA A) = flt j) (fr : FrM f0 σ τ1) (s : StM τ1 f0 B A.2.2.1 deep 0 ((kd, (cd, (pa, (f, w)))) :: gs) E 0) (e27 : (τ1.1 110 27).toInt = (e : Int)) (he : e ≤ X.2) (hs : sk9 X e = j) (hj : A.2.2.1 < j) (hjX : j ≤ X.2) (e58 : (τ1.1 110 58).toInt < 0) (e61 : (τ1.1 110 61).toInt = 1) (e59 : (τ1.1 110 59).toInt = ftX X p) (hf : 0 ≤ ftX X p ∧ ftX X p ≤ 15) (k : ∀ τ', QwM X f0 B A σ τ' → Q () τ') : W_M_featureDone τ1 (fun _ s => Q () s) := by
  have hX := tx.1.2
  refine w_token tx e27 he (fun s1 f1 tk1 => ?_)
  rw [hs] at tk1
  have st1 := s.eq f1.v.ss
  have m1 : FrM f0 σ s1 := fr.tr f1.v.m
  refine w_isSignM 6 tk1 (tk_255 (f1.tx tx)) (fun c => ⟨fun z => absurd z (by decide), fun _ => ?_⟩) (fun c => ⟨fun _ s4 e4 r5 h5 => ?_, fun z => absurd rfl z⟩)
  · have c9 := kc9.mpr c
    rw [if_pos c9] at hA
    refine w_deeperM st1 tk1.1.1 (fun hd s8 f8 st8 => ⟨fun z => absurd z (by decide), fun _ => ?_⟩) (fun hd s8 f8 e8 => ⟨fun _ => k s8 (Or.inr ⟨j, hU c9 hd, m1.tr f8, e8⟩), fun z => absurd rfl z⟩)
    rw [if_neg hd] at hA
    refine w_opensM (kn := 3) (f := ftX X p) st8 (by decide) (fun _ => ⟨e59, hf⟩) (fun s10 f10 st10 s11 e11 => ?_)
    have g : FrX f0 s1 s10 := f8.tr f10
    have nl := nx_lt (X := X) (p := j) (by omega)
    refine k s11 (Or.inl ⟨_, hA, m1.tr (g.m.tr (FrM.i (by omega) e11)), ⟨(st10.eq (SmS.i (by omega) e11)).le (by show A.2.2.1 ≤ nx9t X j; omega) (by show nx9t X j ≤ 1200; omega), ⟨?_, ?_⟩, ?_, fun z => no_tf z⟩, ⟨te9 X j, ?_, te_L hjX, rfl⟩, by show A.2.2.1 < nx9t X j; omega, nl.2⟩)
    · rw [← e11, yI_ne (by omega), g.1 110 61 (by omega) (by omega) (by omega), f1.1 110 61 (by omega)]; exact e61
    · rw [← e11, yI_at]; exact t32_0
    · rw [← e11, yI_ne (by omega), g.1 110 58 (by omega) (by omega) (by omega), f1.1 110 58 (by omega)]; exact e58
    · rw [← e11, yI_ne (by omega), g.1 110 27 (by omega) (by omega) (by omega)]; exact tk1.1.2.1
  · rw [if_neg (fun z => c (kc9.mp z))] at hA
    refine q_emv (x := (4, ftX X p)) hA (m1.tr (FrM.i (by omega) e4)) (st1.eq (SmS.i (by omega) e4)) (by rw [← e4, yI_at]; exact e27) he hs hj hjX hX (by rw [← e4, yI_ne (by omega), f1.1 110 58 (by omega)]; exact e58) k (by show (4 : Int32).toInt = ((4 : Nat) : Int); decide) (by rw [h5]; exact e59) (by show (4 : Nat) ≤ 4 ∨ _; omega) (fun _ => hf)
end L26
section L27
variable {σ τ : zS} {X : Txt} {f0 B p deep kd pa : Nat} {cd st : Bool} {f : Int} {w : WtJ} {gs : List GfE} {E : List ItJ} {Q : Unit → zS → Prop}
theorem fto_bd {r : Option Int} {fl : Nat} {g : Nat → Oc} (h : r = bdR fl) : fto r g = flt fl := by cases h; rfl
theorem fto_ok {r : Option Int} {q : Nat} {g : Nat → Oc} (h : r = okR q) : fto r g = g q := by cases h; rfl
theorem ftE_ok {r : Option Int} {q : Nat} {g : Nat → Option AuE} (h : r = okR q) : ftE r g = g q := by cases h; rfl
theorem em_24 (h : rc9 X p = 24) : (EmX X).em p = (2, 0) := by rw [em_c (by omega), h]; rfl
theorem em_25 (h : rc9 X p = 25) : (EmX X).em p = (3, 0) := by rw [em_c (by omega), h]; rfl
theorem wt_7 : wt9 (7, (7, 0)) := ⟨by decide, Or.inl ⟨rfl, rfl⟩⟩
theorem wt_3 : wt9 (3, (16, 0)) := ⟨by decide, Or.inr (Or.inl ⟨rfl, rfl⟩)⟩
theorem w_wantedM (tx : TxM τ X) (tk : TkM τ X p) (hpX : p ≤ X.2) (fs : FsM τ f0 B (true, (st, (p, (deep, (((kd, (cd, (pa, (f, w)))), gs), E)))))) (k : ∀ τ', QwM X f0 B (true, (st, (p, (deep, (((kd, (cd, (pa, (f, w)))), gs), E))))) τ τ' → Q () τ') : W_M_wanted τ Q := by
  obtain ⟨s, ⟨e61, e60⟩, e58, _⟩ := fs
  have s : StM τ f0 B p deep 0 ((kd, (cd, (pa, (f, w)))) :: gs) E 0 := s
  have e61 : (τ.1 110 61).toInt = 1 := e61
  have e60 : (τ.1 110 60).toInt = (bif st then 1 else 0) := e60
  have hX := tx.1.2
  have b255 := tk_255 (p := p) tx
  have t0 : (τ.1 110 60).toInt = 0 → st = false := fun z => by
    cases st with
    | true => rw [e60] at z; exact absurd z (by decide)
    | false => rfl
  have t1 : ¬ (τ.1 110 60).toInt = 0 → st = true := fun z => by
    cases st with
    | true => rfl
    | false => exact absurd e60 z
  have e28 := tk.1.2.2
  have s129 : ¬ (st = true ∧ (KT9 X).c p = 1) → ¬ (st = true ∧ (KT9 X).c p = 2) → W_M_wanted_b129 τ Q := fun n1 n2 => by
    refine w_isSignM 4 tk b255 (fun c => ⟨fun z => absurd z (by decide), fun _ => ?_⟩) (fun c => ⟨fun _ => ?_, fun z => absurd rfl z⟩)
    · have c3 := kc3.mpr c
      have nl := nx_lt (X := X) (p := p) (by omega)
      refine w_deeperM s tk.1.1 (fun hd s26 f26 st26 => ⟨fun z => absurd z (by decide), fun _ => ?_⟩) (fun hd s26 f26 e26 => ⟨fun _ => k s26 (Or.inr ⟨p, (if_neg n1).trans ((if_neg n2).trans ((if_pos c3).trans (if_pos hd))), f26, e26⟩), fun z => absurd rfl z⟩)
      have opn : ∀ (kn : Nat) (s30 : zS), kn = (bif st then 1 else 2) → FrX f0 s26 s30 → StM s30 f0 B p (deep + 1) 0 ((kn, (false, (0, (0, [])))) :: (kd, (cd, (pa, (f, w)))) :: gs) E 0 → Q () s30 := fun kn s30 hkn f30 st30 => by
        subst hkn
        have g := f26.tr f30
        exact k s30 (Or.inl ⟨(true, (st, (nx9t X p, (deep + 1, (((bif st then 1 else 2, (false, (0, (0, [])))), (kd, (cd, (pa, (f, w)))) :: gs), E))))), (if_neg n1).trans ((if_neg n2).trans ((if_pos c3).trans (if_neg hd))), g.m, ⟨st30.le (by show p ≤ nx9t X p; omega) (by show nx9t X p ≤ 1200; omega), ⟨by rw [g.1 110 61 (by omega) (by omega) (by omega)]; exact e61, by rw [g.1 110 60 (by omega) (by omega) (by omega)]; exact e60⟩, by rw [g.1 110 58 (by omega) (by omega) (by omega)]; exact e58, fun z => no_tf z⟩, ⟨te9 X p, by rw [g.1 110 27 (by omega) (by omega) (by omega)]; exact tk.1.2.1, te_L hpX, rfl⟩, nl.1, nl.2⟩)
      have d60 : s26.1 110 60 = τ.1 110 60 := f26.1 110 60 (by omega) (by omega) (by omega)
      refine ⟨fun z => w_opensM (kn := 2) (f := 0) st26 (by decide) (fun z => absurd z (by decide)) (fun s29 f29 st29 => opn 2 s29 ?_ f29 st29), fun z => w_opensM (kn := 1) (f := 0) st26 (by decide) (fun z => absurd z (by decide)) (fun s30 f30 st30 => opn 1 s30 ?_ f30 st30)⟩
      · rw [d60] at z; rw [t0 z]; rfl
      · rw [d60] at z; rw [t1 z]; rfl
    have n3 : ¬ (KT9 X).c p = 3 := fun z => c (kc3.mp z)
    refine w_isSignM 9 tk b255 (fun c => ⟨fun z => absurd z (by decide), fun _ => ?_⟩) (fun c => ⟨fun _ => ?_, fun z => absurd rfl z⟩)
    · have c4 := kc4.mpr c
      have nl := nx_lt (X := X) (p := p) (by omega)
      refine w_deeperM s tk.1.1 (fun hd s22 f22 st22 => ⟨fun z => absurd z (by decide), fun _ => ?_⟩) (fun hd s22 f22 e22 => ⟨fun _ => k s22 (Or.inr ⟨p, (if_neg n1).trans ((if_neg n2).trans ((if_neg n3).trans ((if_pos c4).trans (if_pos hd)))), f22, e22⟩), fun z => absurd rfl z⟩)
      refine w_holdM (7, (7, 0)) (dx := 0) (v := 0) st22 (by omega) (by decide) (by decide) (by decide) wt_7 (fun s24 f24 st24 s25 e25 => ?_)
      have g := f22.tr f24
      exact k s25 (Or.inl ⟨_, (if_neg n1).trans ((if_neg n2).trans ((if_neg n3).trans ((if_pos c4).trans (if_neg hd)))), g.m.tr (FrM.i (by omega) e25), ⟨(st24.eq (SmS.i (by omega) e25)).le (by show p + 1 ≤ nx9t X p; omega) (by show nx9t X p ≤ 1200; omega), ⟨by rw [← e25, yI_ne (by omega), g.1 110 61 (by omega) (by omega) (by omega)]; exact e61, by rw [← e25, yI_at]; exact t32_0⟩, by rw [← e25, yI_ne (by omega), g.1 110 58 (by omega) (by omega) (by omega)]; exact e58, fun z => no_tf z⟩, ⟨te9 X p, by rw [← e25, yI_ne (by omega), g.1 110 27 (by omega) (by omega) (by omega)]; exact tk.1.2.1, te_L hpX, rfl⟩, nl.1, nl.2⟩)
    have n4 : ¬ (KT9 X).c p = 4 := fun z => c (kc4.mp z)
    have em1 : ∀ (x : ItJ) (x1 : Int32) (x2 : Int64), (KT9 X).c p = 5 ∨ (KT9 X).c p = 6 → (EmX X).em p = x → x1.toInt = (x.1 : Int) → x2.toInt = x.2 → x.1 ≤ 3 → W_M_emit x1 x2 τ (fun _ s => W_M_valueDone s (fun _ s => Q () s)) := fun x x1 x2 c5 hx h1 h2 h3 => by
      have r2 : 2 ≤ rc9 X p := by
        rcases c5 with z | z
        · have := kc5.mp z; omega
        · have := kc6.mp z; omega
      have nl := nx_lt (X := X) (p := p) r2
      exact q_emv (A := (true, (st, (p, (deep, (((kd, (cd, (pa, (f, w)))), gs), E)))))) (x := x) (j := nx9t X p) (e := te9 X p) (by rw [← hx]; exact (if_neg n1).trans ((if_neg n2).trans ((if_neg n3).trans ((if_neg n4).trans (if_pos c5))))) FrM.rf s tk.1.2.1 (te_L hpX) rfl nl.1 nl.2 hX e58 k h1 h2 (Or.inl (by omega)) (fun z => absurd z (by omega))
    have s214 : rc9 X p = 2 ∨ rc9 X p = 3 → W_M_wanted_b214 τ Q := fun c => by
      have rk := rc_kd (X := X) (p := p)
      have kl : kd9 X p ≤ 5 := kd9_le
      refine ⟨fun z => ?_, fun z => ?_⟩
      · obtain ⟨a1, a2, a3⟩ := em_5 (x1 := 0) c tk (by show (0 : Int) = _; omega)
        exact em1 _ 0 _ (Or.inl (kc5.mpr c)) rfl a1 a2 (by omega)
      · obtain ⟨a1, a2, a3⟩ := em_5 (x1 := 1) c tk (by show (1 : Int) = _; omega)
        exact em1 _ 1 _ (Or.inl (kc5.mpr c)) rfl a1 a2 (by omega)
    have n5 : rc9 X p ≠ 2 → rc9 X p ≠ 3 → rc9 X p ≠ 24 → rc9 X p ≠ 25 → ¬ ((KT9 X).c p = 5 ∨ (KT9 X).c p = 6) := fun a b c d z => by
      rcases z with z | z
      · have := kc5.mp z; omega
      · have := kc6.mp z; omega
    have s272 : rc9 X p = 24 ∨ rc9 X p = 25 → W_M_wanted_b272 τ Q := fun c => by
      refine w_isWordM 24 tk (fun c => ⟨fun z => absurd z (by decide), fun _ => em1 (2, 0) 2 0 (Or.inr (kc6.mpr (Or.inl c))) (em_24 c) (by decide) (by decide) (by decide)⟩) (fun d => ⟨fun _ => em1 (3, 0) 3 0 (Or.inr (kc6.mpr (Or.inr (by omega)))) (em_25 (by omega)) (by decide) (by decide) (by decide), fun z => absurd rfl z⟩)
    have rk := rc_kd (X := X) (p := p)
    have k2 : rc9 X p = 2 ↔ kd9 X p = 2 := ⟨fun z => by have kl : kd9 X p ≤ 5 := kd9_le; omega, fun z => rk.2.2.1 z⟩
    have k3 : rc9 X p = 3 ↔ kd9 X p = 3 := ⟨fun z => by have kl : kd9 X p ≤ 5 := kd9_le; omega, fun z => rk.2.2.2.1 z⟩
    refine ⟨fun z => s214 (Or.inl (k2.mpr (by omega))), fun z2 => ⟨fun z => s214 (Or.inr (k3.mpr (by omega))), fun z3 => ?_⟩⟩
    have m2 : rc9 X p ≠ 2 := fun q => by have := k2.mp q; omega
    have m3 : rc9 X p ≠ 3 := fun q => by have := k3.mp q; omega
    clear k2 k3 rk
    refine w_isWordM 24 tk (fun c => ⟨fun z => absurd z (by decide), fun _ => s272 (Or.inl c)⟩) (fun m24 => ⟨fun _ => ?_, fun z => absurd rfl z⟩)
    refine w_isWordM 25 tk (fun c => ⟨fun z => absurd z (by decide), fun _ => s272 (Or.inr c)⟩) (fun m25 => ⟨fun _ => ?_, fun z => absurd rfl z⟩)
    have n5 := n5 m2 m3 m24 m25
    refine w_isWordM 26 tk (fun c => ⟨fun z => absurd z (by decide), fun _ => ?_⟩) (fun c => ⟨fun _ => ?_, fun z => absurd rfl z⟩)
    · have c7 := kc7.mpr c
      have nl := nx_lt (X := X) (p := p) (by omega)
      refine w_token tx tk.1.2.1 (te_L hpX) (fun s16 f16 tk16 => ?_)
      have tk16 : TkM s16 X (nx9t X p) := tk16
      refine w_isFeatureM (f16.tx tx) tk16 nl.2 (fun s17 q hq f17 tk17 eq _ _ _ h59 h58 => ⟨fun z => absurd z (by decide), fun _ r19 h19 => ?_⟩) (fun s17 fl hfl f17 h58 => ⟨fun _ => k s17 (Or.inr ⟨fl, (if_neg n1).trans ((if_neg n2).trans ((if_neg n3).trans ((if_neg n4).trans ((if_neg n5).trans ((if_pos c7).trans (fto_bd hfl)))))), f16.v.m.tr f17.m, h58⟩), fun z => absurd rfl z⟩)
      have le1 : nx9t X p ≤ q := by rw [eq]; exact Nat.le_trans nx_le (Nat.le_trans nx_le nx_le)
      exact q_emv (A := (true, (st, (p, (deep, (((kd, (cd, (pa, (f, w)))), gs), E)))))) (x := (6, ftX X (nx9t X p))) (j := q) (e := te9 X (nx9t X (nx9t X (nx9t X p)))) ((if_neg n1).trans ((if_neg n2).trans ((if_neg n3).trans ((if_neg n4).trans ((if_neg n5).trans ((if_pos c7).trans (ftE_ok hq))))))) (f16.v.m.tr f17.m) ((s.eq f16.v.ss).eq f17.ss) tk17.1.2.1 (te_L (nx_L (nx_L nl.2))) eq.symm (by show p < q; omega) (by rw [eq]; exact nx_L (nx_L (nx_L nl.2))) hX (by rw [h58, f16.1 110 58 (by omega)]; exact e58) k (by show (6 : Int32).toInt = ((6 : Nat) : Int); decide) (by rw [h19]; exact h59) (Or.inr rfl) (fun _ => ft_rng hq)
    · have n7 : ¬ (KT9 X).c p = 7 := fun z => c (kc7.mp z)
      refine w_isFeatureM tx tk hpX (fun s13 q hq f13 tk13 eq r1 _ _ h59 h58 => ⟨fun z => absurd z (by decide), fun _ => ?_⟩) (fun s13 fl hfl f13 h58 => ⟨fun _ => k s13 (Or.inr ⟨fl, (if_neg n1).trans ((if_neg n2).trans ((if_neg n3).trans ((if_neg n4).trans ((if_neg n5).trans ((if_neg n7).trans (fto_bd hfl)))))), f13.m, h58⟩), fun z => absurd rfl z⟩)
      have nl := nx_lt (X := X) (p := p) r1
      have le1 : nx9t X p ≤ q := by rw [eq]; exact Nat.le_trans nx_le nx_le
      exact w_featureM (A := (true, (st, (p, (deep, (((kd, (cd, (pa, (f, w)))), gs), E)))))) (j := q) (e := te9 X (nx9t X (nx9t X p))) (f13.tx tx) ((if_neg n1).trans ((if_neg n2).trans ((if_neg n3).trans ((if_neg n4).trans ((if_neg n5).trans ((if_neg n7).trans (ftE_ok hq))))))) (fun c9 hd => (if_neg n1).trans ((if_neg n2).trans ((if_neg n3).trans ((if_neg n4).trans ((if_neg n5).trans ((if_neg n7).trans ((fto_ok hq).trans ((if_pos c9).trans (if_pos hd))))))))) f13.m (s.eq f13.ss) tk13.1.2.1 (te_L (nx_L nl.2)) eq.symm (by show p < q; omega) (by rw [eq]; exact nx_L (nx_L nl.2)) (by rw [h58]; exact e58) (by rw [f13.1 110 61 (by omega)]; exact e61) h59 (ft_rng hq) k
  have s50 : ¬ (st = true ∧ (KT9 X).c p = 1) → W_M_wanted_b50 τ Q := fun n1 => by
    refine ⟨fun z => s129 n1 (fun q => by rw [t0 z] at q; cases q.1), fun z => w_isWordM 23 tk (fun c => ⟨fun z => absurd z (by decide), fun _ => ?_⟩) (fun c => ⟨fun _ => s129 n1 (fun q => c (kc2.mp q.2)), fun z => absurd rfl z⟩)⟩
    have c2 : st = true ∧ (KT9 X).c p = 2 := ⟨t1 z, kc2.mpr c⟩
    have nl := nx_lt (X := X) (p := p) (by omega)
    refine w_token tx tk.1.2.1 (te_L hpX) (fun s4 f4 tk4 => ?_)
    have tk4 : TkM s4 X (nx9t X p) := tk4
    refine w_isFeatureM (f4.tx tx) tk4 nl.2 (fun s5 q hq f5 tk5 eq _ _ _ h59 h58 => ⟨fun z => absurd z (by decide), fun _ r7 h7 => ?_⟩) (fun s5 fl hfl f5 h58 => ⟨fun _ => k s5 (Or.inr ⟨fl, (if_neg n1).trans ((if_pos c2).trans (fto_bd hfl)), f4.v.m.tr f5.m, h58⟩), fun z => absurd rfl z⟩)
    have le1 : nx9t X p ≤ q := by rw [eq]; exact Nat.le_trans nx_le (Nat.le_trans nx_le nx_le)
    have leX : q ≤ X.2 := by rw [eq]; exact nx_L (nx_L (nx_L nl.2))
    refine w_emitM (x := (15, ftX X (nx9t X p))) (v' := 1) ((s.eq f4.v.ss).eq f5.ss) (by omega) (by show (15 : Int32).toInt = ((15 : Nat) : Int); decide) (by rw [h7]; exact h59) (by show (15 : Nat) ≤ 18; decide) (fun _ => ft_rng hq) (qst_p (Or.inr (Or.inr rfl)) (by omega)) (fun s8 f8 st8 => ?_)
    have tp := st8.top
    refine ⟨gs.length, tp.1, tp.2.1, fun s10 e10 => ?_⟩
    have st10 := setM (cd' := true) (pa' := pa) st8 rfl (Or.inl ⟨rfl, by decide, rfl⟩) e10
    have tq := st10.top
    refine ⟨gs.length, tq.1, tq.2.1, fun s12 e12 s13 e13 s14 e14 => ?_⟩
    have st12 := setM (cd' := true) (pa' := 2) st10 rfl (Or.inr ⟨rfl, by decide, rfl⟩) e12
    have g1 : FrX f0 s5 s12 := f8.x.tr ((FrX.i (by omega) e10).tr (FrX.i (by omega) e12))
    have g2 : FrM f0 s12 s14 := (FrM.i (by omega) e13).tr (FrM.i (by omega) e14)
    exact k s14 (Or.inl ⟨_, (if_neg n1).trans ((if_pos c2).trans (ftE_ok hq)), (f4.v.m.tr f5.m).tr (g1.m.tr g2), ⟨((st12.eq (SmS.i (by omega) e13)).eq (SmS.i (by omega) e14)).le (by show p + 1 ≤ q; omega) (by show q ≤ 1200; omega), ⟨by rw [← e14, yI_ne (by omega), ← e13, yI_at]; exact t32_0, by rw [← e14, yI_at]; exact t32_0⟩, by rw [← e14, yI_ne (by omega), ← e13, yI_ne (by omega), g1.1 110 58 (by omega) (by omega) (by omega), h58, f4.1 110 58 (by omega)]; exact e58, fun _ => rfl⟩, ⟨te9 X (nx9t X (nx9t X (nx9t X p))), by rw [← e14, yI_ne (by omega), ← e13, yI_ne (by omega), g1.1 110 27 (by omega) (by omega) (by omega)]; exact tk5.1.2.1, te_L (nx_L (nx_L nl.2)), eq.symm⟩, by show p < q; omega, leX⟩)
  refine ⟨fun z => s50 (fun q => by rw [t0 z] at q; cases q.1), fun z => w_isWordM 22 tk (fun c => ⟨fun z => absurd z (by decide), fun _ => ?_⟩) (fun c => ⟨fun _ => s50 (fun q => c (kc1.mp q.2)), fun z => absurd rfl z⟩)⟩
  have c1 : st = true ∧ (KT9 X).c p = 1 := ⟨t1 z, kc1.mpr c⟩
  have nl := nx_lt (X := X) (p := p) (by omega)
  refine w_deeperM s tk.1.1 (fun hd s4 f4 st4 => ⟨fun z => absurd z (by decide), fun _ => ?_⟩) (fun hd s4 f4 e4 => ⟨fun _ => k s4 (Or.inr ⟨p, (if_pos c1).trans (if_pos hd), f4, e4⟩), fun z => absurd rfl z⟩)
  refine w_holdM (3, (16, 0)) (dx := 0) (v := 0) st4 (by omega) (by decide) (by decide) (by decide) wt_3 (fun s6 f6 st6 => ?_)
  have tp := st6.top
  refine ⟨gs.length, tp.1, tp.2.1, fun s8 e8 => ?_⟩
  have st8 := setM (cd' := true) (pa' := pa) st6 rfl (Or.inl ⟨rfl, by decide, rfl⟩) e8
  have g := (f4.tr f6).tr (FrX.i (by omega) e8)
  exact k s8 (Or.inl ⟨_, (if_pos c1).trans (if_neg hd), g.m, ⟨st8.le (by show p + 1 ≤ nx9t X p; omega) (by show nx9t X p ≤ 1200; omega), ⟨by rw [g.1 110 61 (by omega) (by omega) (by omega)]; exact e61, by rw [g.1 110 60 (by omega) (by omega) (by omega)]; exact e60⟩, by rw [g.1 110 58 (by omega) (by omega) (by omega)]; exact e58, fun z => no_tf z⟩, ⟨te9 X p, by rw [g.1 110 27 (by omega) (by omega) (by omega)]; exact tk.1.2.1, te_L hpX, rfl⟩, nl.1, nl.2⟩)
end L27

end
end
section
section
/-! ===== the reference goes on behind a value ===== -/
noncomputable def QgM (X : Txt) (f0 B : Nat) (A : AuE) (σ : zS) (v : Int32) (τ : zS) : Prop := (QwM X f0 B A σ τ ∧ (0 ≤ (τ.1 110 58).toInt → v = 0) ∧ (¬ 0 ≤ (τ.1 110 58).toInt → v = 1)) ∨ (v = 0 ∧ stpA (KT9 X) (prA A) = .inr (true, A.2.2.1) ∧ τ = σ)
noncomputable def bk9 : GfE → List GfE → Nat
  | g, [] => g.1
  | _, g2 :: gs => bk9 g2 gs
section L28
variable {σ τ : zS} {X : Txt} {f0 B p deep kd pa : Nat} {cd : Bool} {f : Int} {w : WtJ} {gs : List GfE} {E : List ItJ} {A : AuE}
theorem sg_iff {x : Int32} (c : Nat) (tk : TkM τ X p) (hb : by9 X p ≤ 255) (h28 : (τ.1 110 28).toInt = 4) (h : (decide (4 ≤ c) && decide (c ≤ 20) && (SGR.all fun e => !(Nat.beq e.2 c) || decide (e.1 = sgT x.toInt)) && Nat.beq (lkd 0 SGR (sgT x.toInt)) c && decide (0 ≤ x.toInt ∧ x.toInt ≤ 302) && !decide (256 ≤ x.toInt ∧ x.toInt ≤ 299)) = true := by decide) : (τ.1 110 30).toInt = x.toInt ↔ rc9 X p = c := by
  have W : W_M_isSign x τ (fun v _ => v = 1 ↔ rc9 X p = c) := w_isSignM c tk hb (fun q => ⟨fun _ => q, fun _ => rfl⟩) (fun q => ⟨fun z => absurd z (by decide), fun z => absurd z q⟩) h
  obtain ⟨a, b⟩ := W.1 h28
  refine ⟨fun z => (a z).mp rfl, fun z => ?_⟩
  by_cases q : (τ.1 110 30).toInt = x.toInt
  · exact q
  · exact absurd ((b q).mpr z) (by decide)
theorem w_reckM {Q : Int32 → zS → Prop} {a : Int32} (tk : TkM τ X p) (hb : by9 X p ≤ 255) (h28 : (τ.1 110 28).toInt = 4) (ha : a = τ.1 110 30) (k : ∀ v : Int32, ((8 ≤ rc9 X p ∧ rc9 X p ≤ 12) ∧ v.toInt = (rc9 X p : Int)) ∨ (¬ (8 ≤ rc9 X p ∧ rc9 X p ≤ 12) ∧ v.toInt = -1) → Q v τ) : W_M_reckoning a τ Q := by
  subst ha
  have i1 : (τ.1 110 30).toInt = 43 ↔ rc9 X p = 8 := sg_iff (x := 43) 8 tk hb h28
  have i2 : (τ.1 110 30).toInt = 45 ↔ rc9 X p = 9 := sg_iff (x := 45) 9 tk hb h28
  have i3 : (τ.1 110 30).toInt = 42 ↔ rc9 X p = 10 := sg_iff (x := 42) 10 tk hb h28
  have i4 : (τ.1 110 30).toInt = 47 ↔ rc9 X p = 11 := sg_iff (x := 47) 11 tk hb h28
  have i5 : (τ.1 110 30).toInt = 37 ↔ rc9 X p = 12 := sg_iff (x := 37) 12 tk hb h28
  have ok : ∀ (v : Int32) (n : Nat), v.toInt = (n : Int) → 8 ≤ n → n ≤ 12 → rc9 X p = n → Q v τ := fun v n hv h1 h2 hr => k v (Or.inl ⟨⟨by omega, by omega⟩, by rw [hr]; exact hv⟩)
  refine ⟨fun z => ok 8 8 (by decide) (by decide) (by decide) (i1.mp z), fun z1 => ⟨fun z => ok 9 9 (by decide) (by decide) (by decide) (i2.mp z), fun z2 => ⟨fun z => ok 10 10 (by decide) (by decide) (by decide) (i3.mp z), fun z3 => ⟨fun z => ok 11 11 (by decide) (by decide) (by decide) (i4.mp z), fun z4 => ⟨fun z => ok 12 12 (by decide) (by decide) (by decide) (i5.mp z), fun z5 => ?_⟩⟩⟩⟩⟩
  have j1 : rc9 X p ≠ 8 := fun q => z1 (i1.mpr q)
  have j2 : rc9 X p ≠ 9 := fun q => z2 (i2.mpr q)
  have j3 : rc9 X p ≠ 10 := fun q => z3 (i3.mpr q)
  have j4 : rc9 X p ≠ 11 := fun q => z4 (i4.mpr q)
  have j5 : rc9 X p ≠ 12 := fun q => z5 (i5.mpr q)
  clear i1 i2 i3 i4 i5
  exact k _ (Or.inr ⟨by omega, by decide⟩)
theorem w_compM {Q : Int32 → zS → Prop} {a : Int32} (tk : TkM τ X p) (hb : by9 X p ≤ 255) (h28 : (τ.1 110 28).toInt = 4) (ha : a = τ.1 110 30) (k : ∀ v : Int32, ((13 ≤ rc9 X p ∧ rc9 X p ≤ 18) ∧ v.toInt = (rc9 X p : Int) - 13) ∨ (¬ (13 ≤ rc9 X p ∧ rc9 X p ≤ 18) ∧ v.toInt = -1) → Q v τ) : W_M_comparison a τ Q := by
  subst ha
  have i1 : (τ.1 110 30).toInt = 60 ↔ rc9 X p = 13 := sg_iff (x := 60) 13 tk hb h28
  have i2 : (τ.1 110 30).toInt = 300 ↔ rc9 X p = 14 := sg_iff (x := 300) 14 tk hb h28
  have i3 : (τ.1 110 30).toInt = 61 ↔ rc9 X p = 15 := sg_iff (x := 61) 15 tk hb h28
  have i4 : (τ.1 110 30).toInt = 302 ↔ rc9 X p = 16 := sg_iff (x := 302) 16 tk hb h28
  have i5 : (τ.1 110 30).toInt = 301 ↔ rc9 X p = 17 := sg_iff (x := 301) 17 tk hb h28
  have i6 : (τ.1 110 30).toInt = 62 ↔ rc9 X p = 18 := sg_iff (x := 62) 18 tk hb h28
  have ok : ∀ (v : Int32) (n : Nat), v.toInt = (n : Int) - 13 → 13 ≤ n → n ≤ 18 → rc9 X p = n → Q v τ := fun v n hv h1 h2 hr => k v (Or.inl ⟨⟨by omega, by omega⟩, by rw [hr]; exact hv⟩)
  refine ⟨fun z => ok 0 13 (by decide) (by decide) (by decide) (i1.mp z), fun z1 => ⟨fun z => ok 1 14 (by decide) (by decide) (by decide) (i2.mp z), fun z2 => ⟨fun z => ok 2 15 (by decide) (by decide) (by decide) (i3.mp z), fun z3 => ⟨fun z => ok 3 16 (by decide) (by decide) (by decide) (i4.mp z), fun z4 => ⟨fun z => ok 4 17 (by decide) (by decide) (by decide) (i5.mp z), fun z5 => ⟨fun z => ok 5 18 (by decide) (by decide) (by decide) (i6.mp z), fun z6 => ?_⟩⟩⟩⟩⟩⟩
  have j1 : rc9 X p ≠ 13 := fun q => z1 (i1.mpr q)
  have j2 : rc9 X p ≠ 14 := fun q => z2 (i2.mpr q)
  have j3 : rc9 X p ≠ 15 := fun q => z3 (i3.mpr q)
  have j4 : rc9 X p ≠ 16 := fun q => z4 (i4.mpr q)
  have j5 : rc9 X p ≠ 17 := fun q => z5 (i5.mpr q)
  have j6 : rc9 X p ≠ 18 := fun q => z6 (i6.mpr q)
  clear i1 i2 i3 i4 i5 i6
  exact k _ (Or.inr ⟨by omega, by decide⟩)
theorem pop0 {w : WtJ} : pop9 0 w = itm9 w ∧ lft9 0 w = [] := by
  have h := pop_lft 0 (x := w) (w := []) (fun y _ => Nat.zero_le _) trivial
  rw [List.append_nil] at h
  exact h
theorem kc_2 (h : 0 < (KT9 X).c p) (h' : (KT9 X).c p ≠ 20) : 2 ≤ rc9 X p := by
  rcases (by omega : rc9 X p = 0 ∨ rc9 X p = 1 ∨ 2 ≤ rc9 X p) with e | e | e
  · have z : (KT9 X).c p = 0 := by show km9 (rc9 X p) = 0; rw [e]; rfl
    omega
  · exact absurd (kc20.mpr e) h'
  · exact e
/-- a group is closed -/
theorem w_closedM {Q : Unit → zS → Prop} {k2 pa2 : Nat} {cd2 st : Bool} {f2 : Int} {w2 : WtJ} {gs2 : List GfE} (tk : TkM τ X p) (hX : X.2 ≤ 1200) (hpX : p ≤ X.2) (r2 : 2 ≤ rc9 X p) (hA : A = (false, (st, (p, (deep, (((kd, (cd, (pa, (f, w)))), (k2, (cd2, (pa2, (f2, w2)))) :: gs2), E)))))) (hE : stE (KT9 X) (EmX X) A = clsE (KT9 X) p deep (kd, (cd, (pa, (f, w)))) ((k2, (cd2, (pa2, (f2, w2)))) :: gs2) E) (s : StM τ f0 B p deep 0 ((kd, (cd, (pa, (f, w)))) :: (k2, (cd2, (pa2, (f2, w2)))) :: gs2) E 1) (e58 : (τ.1 110 58).toInt < 0) (k : ∀ τ', QwM X f0 B A τ τ' → Q () τ') : W_M_closed τ Q := by
  have nl := nx_lt (X := X) (p := p) r2
  have hAp : A.2.2.1 = p := by rw [hA]
  refine w_reduceM 0 (by decide) s (fun s1 f1 st1 => ?_)
  rw [pop0.1, pop0.2] at st1
  obtain ⟨t1, t2, b, g1⟩ := st1.top
  have hl : ((k2, (cd2, (pa2, (f2, w2)))) :: gs2 : List GfE).length = gs2.length + 1 := rfl
  have c64 : ∀ (y : Int32) (P : Nat) (E1 : List ItJ) (s2 : zS), P ≤ p + 1 → (∀ k j : Nat, ¬ (k = 110 ∧ j = 46) → ¬ (k = 141 ∧ f0 ≤ j) → s2.1 k j = s1.1 k j) → FrM f0 τ s2 → StM s2 f0 B P (ddE 0 deep w) 0 ((kd, (cd, (pa, (f, [])))) :: (k2, (cd2, (pa2, (f2, w2)))) :: gs2) E1 1 → ((y.toInt = 1 ∧ stE (KT9 X) (EmX X) A = some (false, (false, (nx9t X p, (ddE 0 deep w - 1, (((k2, (true, (2, (f2, w2)))), gs2), E1)))))) ∨ (y.toInt = 0 ∧ stE (KT9 X) (EmX X) A = vdE (nx9t X p) (ddE 0 deep w - 1) (k2, (cd2, (pa2, (f2, w2)))) gs2 E1)) → W_M_closed_b64 y s2 Q := fun y P E1 s2 hP fs fm st2 hy => by
    have d52 : (s2.1 110 52).toInt = ((gs2.length + 1 : Nat) : Int) := by rw [fs 110 52 (by omega) (by omega)]; exact t1
    have d57 : (s2.1 110 57).toInt = ((ddE 0 deep w : Nat) : Int) ∧ ddE 0 deep w ≤ 20 := by
      obtain ⟨W, ⟨_, _, a4, a5, _⟩, _⟩ := st2
      exact ⟨a4, a5⟩
    have d58 : (s2.1 110 58).toInt < 0 := by rw [fs 110 58 (by omega) (by omega), f1.1 110 58 (by omega) (by omega) (by omega)]; exact e58
    have d27 : (s2.1 110 27).toInt = (te9 X p : Int) := by rw [fs 110 27 (by omega) (by omega), f1.1 110 27 (by omega) (by omega) (by omega)]; exact tk.1.2.1
    refine ⟨by omega, fun r1 h1 s3 e3 => ?_⟩
    have st3 := closeM st2 h1 e3
    have d57' : s3.1 110 57 = s2.1 110 57 := by rw [← e3, yI_ne (by omega)]
    refine ⟨by rw [d57']; omega, fun r3 h3 s4 e4 => ?_⟩
    have st4 := lessM (c := 1) st3 (by show 1 ≤ gs2.length + 1; omega) h3 e4
    have g4 : FrX f0 s2 s4 := (FrX.i (by omega) e3).tr (FrX.i (by omega) e4)
    have st4 := st4.le (P' := nx9t X p) (by omega) (by omega)
    have x58 : (s4.1 110 58).toInt < 0 := by rw [g4.1 110 58 (by omega) (by omega) (by omega)]; exact d58
    have x27 : (s4.1 110 27).toInt = (te9 X p : Int) := by rw [g4.1 110 27 (by omega) (by omega) (by omega)]; exact d27
    refine ⟨fun z => ?_, fun z => ?_⟩
    · have hv := (hy.resolve_left (fun q => by omega)).2
      exact q_val hv (fm.tr g4.m) st4 x27 (te_L hpX) rfl (by rw [hAp]; exact nl.1) nl.2 x58 k
    · have hv := (hy.resolve_right (fun q => by omega)).2
      obtain ⟨u1, u2, _⟩ := st4.top
      refine ⟨gs2.length, u1, u2, fun s8 e8 => ?_⟩
      have st8 := setM (cd' := cd2) (pa' := 2) st4 rfl (Or.inr ⟨rfl, by decide, rfl⟩) e8
      obtain ⟨u1, u2, _⟩ := st8.top
      refine ⟨gs2.length, u1, u2, fun s10 e10 s11 e11 s12 e12 => ?_⟩
      have st10 := setM (cd' := true) (pa' := 2) st8 rfl (Or.inl ⟨rfl, by decide, rfl⟩) e10
      have g10 : FrX f0 s4 s10 := (FrX.i (by omega) e8).tr (FrX.i (by omega) e10)
      have g12 : FrM f0 s10 s12 := (FrM.i (by omega) e11).tr (FrM.i (by omega) e12)
      exact k s12 (Or.inl ⟨_, hv, (fm.tr g4.m).tr (g10.m.tr g12), ⟨(st10.eq (SmS.i (by omega) e11)).eq (SmS.i (by omega) e12), ⟨by rw [← e12, yI_ne (by omega), ← e11, yI_at]; exact t32_0, by rw [← e12, yI_at]; exact t32_0⟩, by rw [← e12, yI_ne (by omega), ← e11, yI_ne (by omega), g10.1 110 58 (by omega) (by omega) (by omega)]; exact x58, fun _ => rfl⟩, ⟨te9 X p, by rw [← e12, yI_ne (by omega), ← e11, yI_ne (by omega), g10.1 110 27 (by omega) (by omega) (by omega)]; exact x27, te_L hpX, rfl⟩, by rw [hAp]; exact nl.1, nl.2⟩)
  have c35 : ∀ y : Int32, ((y.toInt = 1 ∧ kd = 1 ∧ 0 < pa) ∨ (y.toInt = 0 ∧ ¬ (kd = 1 ∧ 0 < pa))) → W_M_closed_b35 y s1 Q := fun y hy => by
    refine ⟨gs2.length + 1, t1, t2, fun z r3 h3 => ?_, fun z => ?_⟩
    · have k3 : kd = 3 := by have := g1.1.1; have this : (s1.1 143 (gs2.length + 1)).toInt = (kd : Int) := this; omega
      have g147 := g1.2.2 k3
      have g147 : (s1.1 147 (gs2.length + 1)).toInt = f ∧ 0 ≤ f ∧ f ≤ 15 := g147
      refine w_emitM (x := (5, f)) (v' := 1) st1 (by omega) (by show (5 : Int32).toInt = ((5 : Nat) : Int); decide) (by rw [h3]; exact g147.1) (by show (5 : Nat) ≤ 18; decide) (fun _ => g147.2) (qst_u (Or.inl rfl) (by omega)) (fun s4 f4 st4 => c64 y (p + 1) _ s4 (Nat.le_refl _) f4.1 (f1.m.tr f4.x.m) st4 (Or.inr ⟨by omega, ?_⟩))
      rw [hE]
      unfold clsE
      dsimp only
      rw [if_neg (by omega), if_pos k3]
      rfl
    · have k3 : kd ≠ 3 := fun q => by have := g1.1.1; have this : (s1.1 143 (gs2.length + 1)).toInt = (kd : Int) := this; omega
      refine c64 y p _ s1 (by omega) (fun _ _ _ _ => rfl) f1.m st1 ?_
      rcases hy with ⟨y1, y2⟩ | ⟨y1, y2⟩
      · refine Or.inl ⟨y1, ?_⟩
        rw [hE]
        unfold clsE
        dsimp only
        rw [if_pos y2]
        rfl
      · refine Or.inr ⟨y1, ?_⟩
        rw [hE]
        unfold clsE
        dsimp only
        rw [if_neg y2, if_neg k3, List.append_nil]
        rfl
  have q143 : (s1.1 143 (gs2.length + 1)).toInt = (kd : Int) := g1.1.1
  have q145 : (s1.1 145 (gs2.length + 1)).toInt = (pa : Int) := g1.1.2.2
  refine ⟨gs2.length + 1, t1, t2, fun z => ⟨fun z2 => c35 0 (Or.inr ⟨by decide, fun q => by omega⟩), fun z2 => c35 1 (Or.inl ⟨by decide, by omega, by omega⟩)⟩, fun z => c35 0 (Or.inr ⟨by decide, fun q => by omega⟩)⟩
end L28
section L29
variable {σ τ : zS} {X : Txt} {f0 B p deep kd pa : Nat} {cd st : Bool} {f : Int} {w : WtJ} {gs : List GfE} {E : List ItJ} {A : AuE}
theorem cU_n {x : ItJ} (h : x.1 ≠ 7 ∧ x.1 ≠ 16) : cU x = 0 ∧ cB x = 1 := ⟨if_neg (by omega), if_neg (by omega)⟩
theorem q_bin {Q : Unit → zS → Prop} {r op : Nat} {ar : Int} {a1 a2 a3 : Int32} {s1 : zS} {w' : WtJ} {E' : List ItJ} (st1 : StM s1 f0 B p deep 0 ((kd, (cd, (pa, (f, w')))) :: gs) E' 1) (hP : p + 1 ≤ 1200) (hop : 8 ≤ op ∧ op ≤ 18 ∧ op ≠ 14 ∧ op ≠ 15 ∧ op ≠ 16) (hr : r ≠ 3 ∧ r ≠ 7) (e1 : a1.toInt = (op : Int)) (e2 : a2.toInt = (r : Int)) (e3 : a3.toInt = ar) (k : ∀ τ', FrX f0 s1 τ' → StM τ' f0 B (p + 1) deep 0 ((kd, (cd, (pa, (f, (r, (op, ar)) :: w')))) :: gs) E' 0 → Q () τ') : W_M_holdBack a1 a2 a3 s1 Q := by
  have c : cU ((op, ar) : ItJ) = 0 ∧ cB ((op, ar) : ItJ) = 1 := cU_n (by show op ≠ 7 ∧ op ≠ 16; omega)
  refine w_holdM (r, (op, ar)) (dx := 0) (v := 0) (by show StM s1 f0 B p deep (0 + cU ((op, ar) : ItJ)) ((kd, (cd, (pa, (f, w')))) :: gs) E' (0 + cB ((op, ar) : ItJ)); rw [c.1, c.2]; exact st1) hP e1 e2 e3 ?_ k
  exact ⟨by show 7 ≤ op ∧ op ≤ 18 ∧ op ≠ 14 ∧ op ≠ 15; omega, by show (op = 7 ∧ r = 7) ∨ (op = 16 ∧ r = 3) ∨ (op ≠ 7 ∧ op ≠ 16 ∧ r ≠ 3 ∧ r ≠ 7); omega⟩
theorem w_goesOnM {Q : Int32 → zS → Prop} (tx : TxM τ X) (tk : TkM τ X p) (hpX : p ≤ X.2) (hbk : bk9 (kd, (cd, (pa, (f, w)))) gs = 0) (fs : FsM τ f0 B (false, (st, (p, (deep, (((kd, (cd, (pa, (f, w)))), gs), E)))))) (k : ∀ τ' v, QgM X f0 B (false, (st, (p, (deep, (((kd, (cd, (pa, (f, w)))), gs), E))))) τ v τ' → Q v τ') : W_M_goesOn τ Q := by
  obtain ⟨s, ⟨e61, e60⟩, e58, est⟩ := fs
  have hst : st = false := est rfl
  subst hst
  have s : StM τ f0 B p deep 0 ((kd, (cd, (pa, (f, w)))) :: gs) E 1 := s
  have e61 : (τ.1 110 61).toInt = 0 := e61
  have e60 : (τ.1 110 60).toInt = 0 := e60
  have hX := tx.1.2
  have b255 := tk_255 (p := p) tx
  have e28 := tk.1.2.2
  obtain ⟨t1, t2, b, ⟨g143, g144, g145⟩, _⟩ := s.top
  have g143 : (τ.1 143 gs.length).toInt = (kd : Int) := g143
  have g144 : (τ.1 144 gs.length).toInt = (bif cd then 1 else 0) := g144
  have g145 : (τ.1 145 gs.length).toInt = (pa : Int) := g145
  have kk : ∀ τ', QwM X f0 B (false, (false, (p, (deep, (((kd, (cd, (pa, (f, w)))), gs), E))))) τ τ' → (0 ≤ (τ'.1 110 58).toInt → Q 0 τ') ∧ (¬ 0 ≤ (τ'.1 110 58).toInt → Q 1 τ') := fun τ' q => ⟨fun z => k τ' 0 (Or.inl ⟨q, fun _ => rfl, fun y => absurd z y⟩), fun z => k τ' 1 (Or.inl ⟨q, fun y => absurd y z, fun _ => rfl⟩)⟩
  have s501a : stpA (KT9 X) (prA (false, (false, (p, (deep, (((kd, (cd, (pa, (f, w)))), gs), E)))))) = flt p → W_M_goesOn_b501 0 τ Q := fun h => by
    refine ⟨fun _ s2 e2 => ?_, fun z => absurd rfl z⟩
    have d : (s2.1 110 58).toInt = (p : Int) := by rw [← e2, yI_at]; exact tk.1.1
    exact k s2 0 (Or.inl ⟨Or.inr ⟨p, h, FrM.i (by omega) e2, d⟩, fun _ => rfl, fun y => absurd (by omega) y⟩)
  have s501b : stpA (KT9 X) (prA (false, (false, (p, (deep, (((kd, (cd, (pa, (f, w)))), gs), E)))))) = .inr (true, p) → W_M_goesOn_b501 1 τ Q := fun h => ⟨fun z => absurd z (by decide), fun _ => k τ 0 (Or.inr ⟨rfl, h, rfl⟩)⟩
  have s448 : ¬ (((KT9 X).c p = 4 ∨ (KT9 X).c p = 12 ∨ (KT9 X).c p = 13) ∧ pa ≠ 2) → ¬ ((KT9 X).c p = 14 ∧ kd < 2 ∧ pa = 0) → ¬ ((KT9 X).c p = 15 ∧ kd < 2 ∧ pa = 0) → ¬ (((KT9 X).c p = 16 ∨ (KT9 X).c p = 17) ∧ kd < 2 ∧ 0 < pa) → ¬ (((KT9 X).c p = 11 ∧ (kd = 2 ∨ (kd = 1 ∧ (0 < pa ∨ cd = false)))) ∨ ((KT9 X).c p = 10 ∧ kd = 3)) → W_M_goesOn_b448 τ Q := fun n1 n2 n3 n4 n5 => by
    have bad : ¬ (gs.map prG = [] ∧ 0 < pa ∧ ((KT9 X).c p = 18 ∨ (KT9 X).c p = 19 ∨ (KT9 X).c p = 20)) → W_M_goesOn_b501 0 τ Q := fun h => s501a ((if_neg n1).trans ((if_neg n2).trans ((if_neg n3).trans ((if_neg n4).trans ((if_neg n5).trans (if_neg h))))))
    have good : (gs.map prG = [] ∧ 0 < pa ∧ ((KT9 X).c p = 18 ∨ (KT9 X).c p = 19 ∨ (KT9 X).c p = 20)) → W_M_goesOn_b501 1 τ Q := fun h => s501b ((if_neg n1).trans ((if_neg n2).trans ((if_neg n3).trans ((if_neg n4).trans ((if_neg n5).trans (if_pos h))))))
    have rk := rc_kd (X := X) (p := p)
    have kl : kd9 X p ≤ 5 := kd9_le
    refine ⟨fun z => ?_, fun z => bad (fun q => z ?_)⟩
    · have h0 : gs.length = 0 := by omega
      have hn : gs.map prG = [] := by rw [List.eq_nil_of_length_eq_zero h0]; rfl
      rw [h0] at g145
      refine ⟨fun z2 => bad (fun q => by omega), fun z2 => ⟨fun z3 => good ⟨hn, by omega, Or.inr (Or.inr (kc20.mpr (rk.1 (by omega))))⟩, fun z3 => ?_⟩⟩
      refine w_isSignM 19 tk b255 (fun c => ⟨fun z => absurd z (by decide), fun _ => good ⟨hn, by omega, Or.inl (kc18.mpr c)⟩⟩) (fun c => ⟨fun _ => ?_, fun z => absurd rfl z⟩)
      refine w_isWordM 32 tk (fun c => ⟨fun z => absurd z (by decide), fun _ => good ⟨hn, by omega, Or.inr (Or.inl (kc19.mpr c))⟩⟩) (fun c2 => ⟨fun _ => bad (fun q => ?_), fun z => absurd rfl z⟩)
      rcases q.2.2 with u | u | u
      · exact c (kc18.mp u)
      · exact c2 (kc19.mp u)
      · have := kc20.mp u
        omega
    · have h0 : gs = [] := List.map_eq_nil_iff.mp q.1
      rw [t1, h0]
      rfl
  have s441 : ¬ (((KT9 X).c p = 4 ∨ (KT9 X).c p = 12 ∨ (KT9 X).c p = 13) ∧ pa ≠ 2) → ¬ ((KT9 X).c p = 14 ∧ kd < 2 ∧ pa = 0) → ¬ ((KT9 X).c p = 15 ∧ kd < 2 ∧ pa = 0) → ¬ (((KT9 X).c p = 16 ∨ (KT9 X).c p = 17) ∧ kd < 2 ∧ 0 < pa) → (((KT9 X).c p = 11 ∧ (kd = 2 ∨ (kd = 1 ∧ (0 < pa ∨ cd = false)))) ∨ ((KT9 X).c p = 10 ∧ kd = 3)) → W_M_goesOn_b441 τ Q := fun n1 n2 n3 n4 c5 => by
    have r2 : 2 ≤ rc9 X p := kc_2 (by omega) (by omega)
    cases gs with
    | nil =>
      have z : kd = 0 := hbk
      exact absurd c5 (by omega)
    | cons g2 gs2 =>
      obtain ⟨k2, cd2, pa2, f2, w2⟩ := g2
      exact w_closedM tk hX hpX r2 rfl ((if_neg n1).trans ((if_neg n2).trans ((if_neg n3).trans ((if_neg n4).trans (if_pos c5))))) s e58 (fun τ' q => kk τ' q)
  have s419 : ¬ (((KT9 X).c p = 4 ∨ (KT9 X).c p = 12 ∨ (KT9 X).c p = 13) ∧ pa ≠ 2) → ¬ ((KT9 X).c p = 14 ∧ kd < 2 ∧ pa = 0) → ¬ ((KT9 X).c p = 15 ∧ kd < 2 ∧ pa = 0) → ¬ (((KT9 X).c p = 16 ∨ (KT9 X).c p = 17) ∧ kd < 2 ∧ 0 < pa) → ¬ ((KT9 X).c p = 11 ∧ (kd = 2 ∨ (kd = 1 ∧ (0 < pa ∨ cd = false)))) → W_M_goesOn_b419 τ Q := fun n1 n2 n3 n4 n5 => by
    refine w_isSignM 7 tk b255 (fun c => ⟨fun z => absurd z (by decide), fun _ => ⟨gs.length, t1, t2, fun z => s441 n1 n2 n3 n4 (Or.inr ⟨kc10.mpr c, by omega⟩), fun z => s448 n1 n2 n3 n4 (fun q => q.elim n5 (fun q => z (by omega)))⟩⟩) (fun c => ⟨fun _ => s448 n1 n2 n3 n4 (fun q => q.elim n5 (fun q => c (kc10.mp q.1))), fun z => absurd rfl z⟩)
  have s403 : ¬ (((KT9 X).c p = 4 ∨ (KT9 X).c p = 12 ∨ (KT9 X).c p = 13) ∧ pa ≠ 2) → ¬ ((KT9 X).c p = 14 ∧ kd < 2 ∧ pa = 0) → ¬ ((KT9 X).c p = 15 ∧ kd < 2 ∧ pa = 0) → ¬ (((KT9 X).c p = 16 ∨ (KT9 X).c p = 17) ∧ kd < 2 ∧ 0 < pa) → W_M_goesOn_b403 τ Q := fun n1 n2 n3 n4 => by
    refine w_isSignM 5 tk b255 (fun c => ⟨fun z => absurd z (by decide), fun _ => ?_⟩) (fun c => ⟨fun _ => s419 n1 n2 n3 n4 (fun q => c (kc11.mp q.1)), fun z => absurd rfl z⟩)
    have c11 := kc11.mpr c
    have yes : (kd = 2 ∨ (kd = 1 ∧ (0 < pa ∨ cd = false))) → ((Int32.toInt 1) = 0 → W_M_goesOn_b419 τ Q) ∧ (¬ (Int32.toInt 1) = 0 → W_M_goesOn_b441 τ Q) := fun q => ⟨fun z => absurd z (by decide), fun _ => s441 n1 n2 n3 n4 (Or.inl ⟨c11, q⟩)⟩
    have no : ¬ (kd = 2 ∨ (kd = 1 ∧ (0 < pa ∨ cd = false))) → ((Int32.toInt 0) = 0 → W_M_goesOn_b419 τ Q) ∧ (¬ (Int32.toInt 0) = 0 → W_M_goesOn_b441 τ Q) := fun q => ⟨fun _ => s419 n1 n2 n3 n4 (fun u => q u.2), fun z => absurd rfl z⟩
    refine ⟨gs.length, t1, t2, fun z => yes (Or.inl (by omega)), fun z => ⟨fun z1 => ⟨fun z2 => yes (Or.inr ⟨by omega, Or.inl (by omega)⟩), fun z2 => ⟨fun z3 => yes (Or.inr ⟨by omega, Or.inr ?_⟩), fun z3 => no (fun q => ?_)⟩⟩, fun z1 => no (fun q => by omega)⟩⟩
    · cases cd with
      | false => rfl
      | true => rw [g144] at z3; exact absurd z3 (by decide)
    · rcases q with q | ⟨q1, q2 | q2⟩
      · omega
      · omega
      · rw [q2] at g144; exact z3 g144
  have s303 : ∀ x2 : Int32, ((x2.toInt = 0 ∧ 2 ≤ kd) ∨ (x2.toInt = 1 ∧ kd < 2)) → ¬ (((KT9 X).c p = 4 ∨ (KT9 X).c p = 12 ∨ (KT9 X).c p = 13) ∧ pa ≠ 2) → ¬ ((KT9 X).c p = 14 ∧ kd < 2 ∧ pa = 0) → ¬ ((KT9 X).c p = 15 ∧ kd < 2 ∧ pa = 0) → rc9 X p = 30 ∨ rc9 X p = 31 → W_M_goesOn_b303 x2 τ Q := fun x2 h2 n1 n2 n3 hc => by
    have nl := nx_lt (X := X) (p := p) (by omega)
    refine ⟨fun z => s403 n1 n2 n3 (fun q => by omega), fun z => ⟨gs.length, t1, t2, fun z2 => s403 n1 n2 n3 (fun q => by omega), fun z2 => ?_⟩⟩
    have c4 : ((KT9 X).c p = 16 ∨ (KT9 X).c p = 17) ∧ kd < 2 ∧ 0 < pa := ⟨hc.elim (fun h => Or.inl (kc16.mpr h)) (fun h => Or.inr (kc17.mpr h)), by omega, by omega⟩
    have go : ∀ (r op : Nat) (y0 y1 : Int32) (s1 : zS), ra9 ((KT9 X).c p) = r → (EmX X).em p = (op, 0) → (r = 1 ∨ r = 2) → (op = 17 ∨ op = 18) → y0.toInt = (r : Int) → y1.toInt = (op : Int) → FrX f0 τ s1 → StM s1 f0 B p (ddE r deep w) 0 ((kd, (cd, (pa, (f, lft9 r w)))) :: gs) (E ++ pop9 r w) 1 → W_M_goesOn_b366 y0 y1 s1 Q := fun r op y0 y1 s1 hr he hr2 ho hy0 hy1 f1 st1 => by
      have hE : stE (KT9 X) (EmX X) (false, (false, (p, (deep, (((kd, (cd, (pa, (f, w)))), gs), E))))) = some (true, (true, (nx9t X p, (ddE (ra9 ((KT9 X).c p)) deep w, (((kd, (true, (0, (f, (ra9 ((KT9 X).c p), (EmX X).em p) :: lft9 (ra9 ((KT9 X).c p)) w)))), gs), E ++ pop9 (ra9 ((KT9 X).c p)) w))))) := (if_neg n1).trans ((if_neg n2).trans ((if_neg n3).trans (if_pos c4)))
      rw [hr, he] at hE
      refine q_bin (op := op) (r := r) (ar := 0) st1 (by omega) (by omega) (by omega) hy1 hy0 (by decide) (fun s2 f2 st2 => ?_)
      obtain ⟨u1, u2, _⟩ := st2.top
      refine ⟨gs.length, u1, u2, fun s3 e3 => ?_⟩
      have st3 := setM (cd' := cd) (pa' := 0) st2 rfl (Or.inr ⟨rfl, by decide, rfl⟩) e3
      obtain ⟨u1, u2, _⟩ := st3.top
      refine ⟨gs.length, u1, u2, fun s5 e5 s6 e6 s7 e7 => ?_⟩
      have st5 := setM (cd' := true) (pa' := 0) st3 rfl (Or.inl ⟨rfl, by decide, rfl⟩) e5
      have g : FrX f0 τ s5 := (f1.tr f2).tr ((FrX.i (by omega) e3).tr (FrX.i (by omega) e5))
      exact kk s7 (Or.inl ⟨_, hE, g.m.tr ((FrM.i (by omega) e6).tr (FrM.i (by omega) e7)), ⟨((st5.eq (SmS.i (by omega) e6)).eq (SmS.i (by omega) e7)).le (by show p + 1 ≤ nx9t X p; omega) (by show nx9t X p ≤ 1200; omega), ⟨by rw [← e7, yI_ne (by omega), ← e6, yI_at]; show (1 : Int32).toInt = 1; decide, by rw [← e7, yI_at]; show (1 : Int32).toInt = 1; decide⟩, by rw [← e7, yI_ne (by omega), ← e6, yI_ne (by omega), g.1 110 58 (by omega) (by omega) (by omega)]; exact e58, fun z => no_tf z⟩, ⟨te9 X p, by rw [← e7, yI_ne (by omega), ← e6, yI_ne (by omega), g.1 110 27 (by omega) (by omega) (by omega)]; exact tk.1.2.1, te_L hpX, rfl⟩, nl.1, nl.2⟩)
    refine w_isWordM 30 tk (fun c => ⟨fun z => absurd z (by decide), fun _ => ?_⟩) (fun c => ⟨fun _ => ?_, fun z => absurd rfl z⟩)
    · have e1 : ra9 ((KT9 X).c p) = 2 := by rw [kc16.mpr c]; rfl
      have e2 : (EmX X).em p = (17, 0) := by rw [em_c (by omega), c]; rfl
      exact w_reduceM 2 (by decide) s (fun s1 f1 st1 => ⟨fun z => absurd z (by decide), fun _ => ⟨fun z => absurd z (by decide), fun _ => go 2 17 2 17 s1 e1 e2 (by omega) (by omega) (by decide) (by decide) f1 st1⟩⟩)
    · have c : rc9 X p = 31 := by omega
      have e1 : ra9 ((KT9 X).c p) = 1 := by rw [kc17.mpr c]; rfl
      have e2 : (EmX X).em p = (18, 0) := by rw [em_c (by omega), c]; rfl
      exact w_reduceM 1 (by decide) s (fun s1 f1 st1 => ⟨fun _ => ⟨fun _ => go 1 18 1 18 s1 e1 e2 (by omega) (by omega) (by decide) (by decide) f1 st1, fun z => absurd rfl z⟩, fun z => absurd rfl z⟩)
  have s274 : ∀ x2 : Int32, ((x2.toInt = 0 ∧ 2 ≤ kd) ∨ (x2.toInt = 1 ∧ kd < 2)) → ¬ (((KT9 X).c p = 4 ∨ (KT9 X).c p = 12 ∨ (KT9 X).c p = 13) ∧ pa ≠ 2) → ¬ ((KT9 X).c p = 14 ∧ kd < 2 ∧ pa = 0) → ¬ ((KT9 X).c p = 15 ∧ kd < 2 ∧ pa = 0) → W_M_goesOn_b274 x2 τ Q := fun x2 h2 n1 n2 n3 => by
    refine w_isWordM 30 tk (fun c => ⟨fun z => absurd z (by decide), fun _ => s303 x2 h2 n1 n2 n3 (Or.inl c)⟩) (fun c => ⟨fun _ => ?_, fun z => absurd rfl z⟩)
    exact w_isWordM 31 tk (fun c => ⟨fun z => absurd z (by decide), fun _ => s303 x2 h2 n1 n2 n3 (Or.inr c)⟩) (fun c2 => ⟨fun _ => s403 n1 n2 n3 (fun q => q.1.elim (fun u => c (kc16.mp u)) (fun u => c2 (kc17.mp u))), fun z => absurd rfl z⟩)
  have s190 : ∀ x1 x2 : Int32, ((x1.toInt = 0 ∧ pa = 2) ∨ (x1.toInt = 1 ∧ pa ≠ 2)) → ((x2.toInt = 0 ∧ 2 ≤ kd) ∨ (x2.toInt = 1 ∧ kd < 2)) → ¬ (((KT9 X).c p = 4 ∨ (KT9 X).c p = 12 ∨ (KT9 X).c p = 13) ∧ pa ≠ 2) → ¬ ((KT9 X).c p = 14 ∧ kd < 2 ∧ pa = 0) → W_M_goesOn_b190 x1 x2 τ Q := fun x1 x2 h1 h2 n1 n2 => by
    refine w_isWordM 29 tk (fun c => ⟨fun z => absurd z (by decide), fun _ => ⟨fun z => s274 x2 h2 n1 n2 (fun q => by omega), fun z1 => ⟨fun z => s274 x2 h2 n1 n2 (fun q => by omega), fun z2 => ⟨gs.length, t1, t2, fun z3 => ?_, fun z => s274 x2 h2 n1 n2 (fun q => by omega)⟩⟩⟩⟩) (fun c => ⟨fun _ => s274 x2 h2 n1 n2 (fun q => c (kc15.mp q.1)), fun z => absurd rfl z⟩)
    have c3 : (KT9 X).c p = 15 ∧ kd < 2 ∧ pa = 0 := ⟨kc15.mpr c, by omega, by omega⟩
    have nl := nx_lt (X := X) (p := p) (by omega)
    refine w_reduceM 5 (by decide) s (fun s7 f7 st7 => ?_)
    have tk7 := f7.tk tk
    have tx7 := f7.m.tx tx
    refine w_token tx7 tk7.1.2.1 (te_L hpX) (fun s8 f8 tk8 => ?_)
    have tk8 : TkM s8 X (nx9t X p) := tk8
    refine w_isFeatureM (f8.tx tx7) tk8 nl.2 (fun s9 q hq f9 tk9 eq _ _ _ h59 h58 => ⟨fun z => absurd z (by decide), fun _ r12 h12 => ?_⟩) (fun s9 fl hfl f9 h58 => ⟨fun _ => kk s9 (Or.inr ⟨fl, (if_neg n1).trans ((if_neg n2).trans ((if_pos c3).trans (fto_bd hfl))), f7.m.tr (f8.v.m.tr f9.m), h58⟩), fun z => absurd rfl z⟩)
    have le1 : nx9t X p ≤ q := by rw [eq]; exact Nat.le_trans nx_le (Nat.le_trans nx_le nx_le)
    have leX : q ≤ X.2 := by rw [eq]; exact nx_L (nx_L (nx_L nl.2))
    refine w_emitM (x := (14, ftX X (nx9t X p))) (v' := 1) ((st7.eq f8.v.ss).eq f9.ss) (by omega) (by show (14 : Int32).toInt = ((14 : Nat) : Int); decide) (by rw [h12]; exact h59) (by show (14 : Nat) ≤ 18; decide) (fun _ => ft_rng hq) (qst_u (Or.inr (Or.inr (Or.inl rfl))) (by omega)) (fun s13 f13 st13 => ?_)
    obtain ⟨u1, u2, _⟩ := st13.top
    refine ⟨gs.length, u1, u2, fun s15 e15 => ?_⟩
    have st15 := setM (cd' := cd) (pa' := 2) st13 rfl (Or.inr ⟨rfl, by decide, rfl⟩) e15
    obtain ⟨u1, u2, _⟩ := st15.top
    refine ⟨gs.length, u1, u2, fun s17 e17 => ?_⟩
    have st17 := setM (cd' := true) (pa' := 2) st15 rfl (Or.inl ⟨rfl, by decide, rfl⟩) e17
    have g : FrX f0 s9 s17 := f13.x.tr ((FrX.i (by omega) e15).tr (FrX.i (by omega) e17))
    refine kk s17 (Or.inl ⟨_, (if_neg n1).trans ((if_neg n2).trans ((if_pos c3).trans (ftE_ok hq))), (f7.m.tr (f8.v.m.tr f9.m)).tr g.m, ⟨st17.le (by show p + 1 ≤ q; omega) (by show q ≤ 1200; omega), ⟨?_, ?_⟩, ?_, fun _ => rfl⟩, ⟨te9 X (nx9t X (nx9t X (nx9t X p))), ?_, te_L (nx_L (nx_L nl.2)), eq.symm⟩, by show p < q; omega, leX⟩)
    · rw [g.1 110 61 (by omega) (by omega) (by omega), f9.1 110 61 (by omega), f8.1 110 61 (by omega), f7.1 110 61 (by omega) (by omega) (by omega)]; exact e61
    · rw [g.1 110 60 (by omega) (by omega) (by omega), f9.1 110 60 (by omega), f8.1 110 60 (by omega), f7.1 110 60 (by omega) (by omega) (by omega)]; exact e60
    · rw [g.1 110 58 (by omega) (by omega) (by omega), h58, f8.1 110 58 (by omega), f7.1 110 58 (by omega) (by omega) (by omega)]; exact e58
    · rw [g.1 110 27 (by omega) (by omega) (by omega)]; exact tk9.1.2.1
  have s105 : ∀ x1 x2 : Int32, ((x1.toInt = 0 ∧ pa = 2) ∨ (x1.toInt = 1 ∧ pa ≠ 2)) → ((x2.toInt = 0 ∧ 2 ≤ kd) ∨ (x2.toInt = 1 ∧ kd < 2)) → ¬ (((KT9 X).c p = 4 ∨ (KT9 X).c p = 12 ∨ (KT9 X).c p = 13) ∧ pa ≠ 2) → W_M_goesOn_b105 x1 x2 τ Q := fun x1 x2 h1 h2 n1 => by
    have rk := rc_kd (X := X) (p := p)
    have kl : kd9 X p ≤ 5 := kd9_le
    refine ⟨fun z28 => w_compM tk b255 z28 rfl (fun v2 hv => ⟨fun z => s190 x1 x2 h1 h2 n1 (fun q => by have := kc14.mp q.1; omega), fun z => ⟨fun z1 => s190 x1 x2 h1 h2 n1 (fun q => by omega), fun z1 => ⟨fun z2 => s190 x1 x2 h1 h2 n1 (fun q => by omega), fun z2 => ⟨gs.length, t1, t2, fun z3 => ?_, fun z3 => s190 x1 x2 h1 h2 n1 (fun q => by omega)⟩⟩⟩⟩), fun z28 => s190 x1 x2 h1 h2 n1 (fun q => by have := kc14.mp q.1; omega)⟩
    have hc : 13 ≤ rc9 X p ∧ rc9 X p ≤ 18 := by omega
    have c2 : (KT9 X).c p = 14 ∧ kd < 2 ∧ pa = 0 := ⟨kc14.mpr hc, by omega, by omega⟩
    have nl := nx_lt (X := X) (p := p) (by omega)
    have he : (EmX X).em p = (13, (rc9 X p : Int) - 13) := by
      rw [em_c (by omega)]
      unfold emN
      rw [if_neg (by omega), if_neg (by omega), if_neg (by omega), if_neg (by omega), if_neg (by omega)]
    have hE : stE (KT9 X) (EmX X) (false, (false, (p, (deep, (((kd, (cd, (pa, (f, w)))), gs), E))))) = some (true, (false, (nx9t X p, (ddE 5 deep w, (((kd, (true, (1, (f, (4, (EmX X).em p) :: lft9 5 w)))), gs), E ++ pop9 5 w))))) := (if_neg n1).trans (if_pos c2)
    rw [he] at hE
    refine w_reduceM 5 (by decide) s (fun s8 f8 st8 => ?_)
    have tk8 := f8.tk tk
    have d28 : (s8.1 110 28).toInt = 4 := by rw [f8.1 110 28 (by omega) (by omega) (by omega)]; exact z28
    refine w_compM tk8 b255 d28 rfl (fun v9 hv9 => ?_)
    have v9e : v9.toInt = (rc9 X p : Int) - 13 := by omega
    refine q_bin (op := 13) (r := 4) (ar := (rc9 X p : Int) - 13) st8 (by omega) (by decide) (by decide) (by decide) (by decide) v9e (fun s10 f10 st10 => ?_)
    obtain ⟨u1, u2, _⟩ := st10.top
    refine ⟨gs.length, u1, u2, fun s12 e12 => ?_⟩
    have st12 := setM (cd' := cd) (pa' := 1) st10 rfl (Or.inr ⟨rfl, by decide, rfl⟩) e12
    obtain ⟨u1, u2, _⟩ := st12.top
    refine ⟨gs.length, u1, u2, fun s14 e14 s15 e15 => ?_⟩
    have st14 := setM (cd' := true) (pa' := 1) st12 rfl (Or.inl ⟨rfl, by decide, rfl⟩) e14
    have g : FrX f0 τ s14 := (f8.tr f10).tr ((FrX.i (by omega) e12).tr (FrX.i (by omega) e14))
    exact kk s15 (Or.inl ⟨_, hE, g.m.tr (FrM.i (by omega) e15), ⟨(st14.eq (SmS.i (by omega) e15)).le (by show p + 1 ≤ nx9t X p; omega) (by show nx9t X p ≤ 1200; omega), ⟨by rw [← e15, yI_at]; show (1 : Int32).toInt = 1; decide, by rw [← e15, yI_ne (by omega), g.1 110 60 (by omega) (by omega) (by omega)]; exact e60⟩, by rw [← e15, yI_ne (by omega), g.1 110 58 (by omega) (by omega) (by omega)]; exact e58, fun z => no_tf z⟩, ⟨te9 X p, by rw [← e15, yI_ne (by omega), g.1 110 27 (by omega) (by omega) (by omega)]; exact tk.1.2.1, te_L hpX, rfl⟩, nl.1, nl.2⟩)
  have n1no : ¬ (8 ≤ rc9 X p ∧ rc9 X p ≤ 12) → ¬ (((KT9 X).c p = 4 ∨ (KT9 X).c p = 12 ∨ (KT9 X).c p = 13) ∧ pa ≠ 2) := fun h q => by
    rcases q.1 with u | u | u
    · have := kc4.mp u; omega
    · have := kc12.mp u; omega
    · have := kc13.mp u; omega
  have s37 : ∀ x1 x2 : Int32, ((x1.toInt = 0 ∧ pa = 2) ∨ (x1.toInt = 1 ∧ pa ≠ 2)) → ((x2.toInt = 0 ∧ 2 ≤ kd) ∨ (x2.toInt = 1 ∧ kd < 2)) → W_M_goesOn_b37 x1 x2 τ Q := fun x1 x2 h1 h2 => by
    have rk := rc_kd (X := X) (p := p)
    have kl : kd9 X p ≤ 5 := kd9_le
    have s78 : ∀ (r : Nat) (y0 : Int32), (8 ≤ rc9 X p ∧ rc9 X p ≤ 12) → pa ≠ 2 → (τ.1 110 28).toInt = 4 → y0.toInt = (r : Int) → (r = 6 ∧ 10 ≤ rc9 X p) ∨ (r = 5 ∧ rc9 X p ≤ 9) → W_M_goesOn_b78 y0 τ Q := fun r y0 hc hpa z28 hy hr => by
      have c1 : ((KT9 X).c p = 4 ∨ (KT9 X).c p = 12 ∨ (KT9 X).c p = 13) ∧ pa ≠ 2 := by
        refine ⟨?_, hpa⟩
        rcases (by omega : rc9 X p = 9 ∨ rc9 X p = 8 ∨ (10 ≤ rc9 X p ∧ rc9 X p ≤ 12)) with u | u | u
        · exact Or.inl (kc4.mpr u)
        · exact Or.inr (Or.inl (kc12.mpr u))
        · exact Or.inr (Or.inr (kc13.mpr u))
      have hk : rnk9 ((KT9 X).c p) = r := by
        unfold rnk9
        by_cases u : (KT9 X).c p = 13
        · have := kc13.mp u
          rw [if_pos u]; omega
        · rw [if_neg u]
          rcases hr with ⟨_, q⟩ | ⟨q, _⟩
          · exact absurd (kc13.mpr ⟨q, hc.2⟩) u
          · exact q.symm
      have he : (EmX X).em p = (rc9 X p, 0) := by
        rw [em_c (by omega)]
        unfold emN
        rw [if_neg (by omega), if_neg (by omega), if_neg (by omega), if_neg (by omega), if_pos (by omega)]
      have hE : stE (KT9 X) (EmX X) (false, (false, (p, (deep, (((kd, (cd, (pa, (f, w)))), gs), E))))) = some (true, (false, (nx9t X p, (ddE (rnk9 ((KT9 X).c p)) deep w, (((kd, (cd, (pa, (f, (rnk9 ((KT9 X).c p), (EmX X).em p) :: lft9 (rnk9 ((KT9 X).c p)) w)))), gs), E ++ pop9 (rnk9 ((KT9 X).c p)) w))))) := if_pos c1
      rw [hk, he] at hE
      have nl := nx_lt (X := X) (p := p) (by omega)
      refine w_reduceM r hy s (fun s1 f1 st1 => ?_)
      have d28 : (s1.1 110 28).toInt = 4 := by rw [f1.1 110 28 (by omega) (by omega) (by omega)]; exact z28
      refine w_reckM (f1.tk tk) b255 d28 rfl (fun v2 hv2 => ?_)
      refine q_bin (op := rc9 X p) (r := r) (ar := 0) st1 (by omega) (by omega) (by omega) (by omega) hy (by decide) (fun s3 f3 st3 s4 e4 => ?_)
      have g : FrX f0 τ s3 := f1.tr f3
      exact kk s4 (Or.inl ⟨_, hE, g.m.tr (FrM.i (by omega) e4), ⟨(st3.eq (SmS.i (by omega) e4)).le (by show p + 1 ≤ nx9t X p; omega) (by show nx9t X p ≤ 1200; omega), ⟨by rw [← e4, yI_at]; show (1 : Int32).toInt = 1; decide, by rw [← e4, yI_ne (by omega), g.1 110 60 (by omega) (by omega) (by omega)]; exact e60⟩, by rw [← e4, yI_ne (by omega), g.1 110 58 (by omega) (by omega) (by omega)]; exact e58, fun z => no_tf z⟩, ⟨te9 X p, by rw [← e4, yI_ne (by omega), g.1 110 27 (by omega) (by omega) (by omega)]; exact tk.1.2.1, te_L hpX, rfl⟩, nl.1, nl.2⟩)
    refine ⟨fun z28 => w_reckM tk b255 z28 rfl (fun v2 hv => ⟨fun z => s105 x1 x2 h1 h2 (n1no (by omega)), fun z => ⟨fun z1 => s105 x1 x2 h1 h2 (fun q => q.2 (by omega)), fun z1 => w_reckM tk b255 z28 rfl (fun v5 hv5 => ⟨fun z5 => s78 6 6 (by omega) (by omega) z28 (by decide) (by omega), fun z5 => s78 5 5 (by omega) (by omega) z28 (by decide) (by omega)⟩)⟩⟩), fun z28 => s105 x1 x2 h1 h2 (n1no (by omega))⟩
  have s18 : ∀ x1 : Int32, ((x1.toInt = 0 ∧ pa = 2) ∨ (x1.toInt = 1 ∧ pa ≠ 2)) → W_M_goesOn_b18 x1 τ Q := fun x1 h1 => ⟨gs.length, t1, t2, fun z => s37 x1 0 h1 (Or.inl ⟨by decide, by omega⟩), fun z => s37 x1 1 h1 (Or.inr ⟨by decide, by omega⟩)⟩
  exact ⟨gs.length, t1, t2, fun z => s18 0 (Or.inl ⟨by decide, by omega⟩), fun z => s18 1 (Or.inr ⟨by decide, by omega⟩)⟩
end L29

end
end
section
section
section L30
variable {K : Tkn} {M : EmJ} {p deep : Nat} {E : List ItJ} {gs : List GfE} {A A' : AuE}
theorem bk_e {kd pa pa' : Nat} {cd cd' : Bool} {f f' : Int} {w w' : WtJ} : bk9 (kd, (cd, (pa, (f, w)))) gs = bk9 (kd, (cd', (pa', (f', w')))) gs := by
  cases gs with
  | nil => rfl
  | cons g gs => rfl
theorem vd_bk {kd pa : Nat} {cd : Bool} {f : Int} {w : WtJ} (h : vdE p deep (kd, (cd, (pa, (f, w)))) gs E = some A') : bk9 A'.2.2.2.2.1.1 A'.2.2.2.2.1.2 = bk9 (kd, (cd, (pa, (f, w)))) gs := by
  cases Option.some.inj h
  exact bk_e
theorem ft_bk {r : Option Int} {g : Nat → Option AuE} {n : Nat} (h : ftE r g = some A') (hg : ∀ j, g j = some A' → bk9 A'.2.2.2.2.1.1 A'.2.2.2.2.1.2 = n) : bk9 A'.2.2.2.2.1.1 A'.2.2.2.2.1.2 = n := by
  cases r with
  | none => cases h
  | some i =>
    cases i with
    | ofNat j => exact hg j h
    | negSucc j => cases h
theorem wan_bk {st : Bool} {kd pa : Nat} {cd : Bool} {f : Int} {w : WtJ} (h : wanE K M st p deep (kd, (cd, (pa, (f, w)))) gs E = some A') : bk9 A'.2.2.2.2.1.1 A'.2.2.2.2.1.2 = bk9 (kd, (cd, (pa, (f, w)))) gs := by
  unfold wanE at h
  dsimp only at h
  by_cases c1 : st = true ∧ K.c p = 1
  · rw [if_pos c1] at h
    by_cases d : deep = 20
    · rw [if_pos d] at h; cases h
    · rw [if_neg d] at h; cases Option.some.inj h; exact bk_e
  rw [if_neg c1] at h
  by_cases c2 : st = true ∧ K.c p = 2
  · rw [if_pos c2] at h
    refine ft_bk h (fun j q => ?_)
    cases Option.some.inj q; exact bk_e
  rw [if_neg c2] at h
  by_cases c3 : K.c p = 3
  · rw [if_pos c3] at h
    by_cases d : deep = 20
    · rw [if_pos d] at h; cases h
    · rw [if_neg d] at h; cases Option.some.inj h; rfl
  rw [if_neg c3] at h
  by_cases c4 : K.c p = 4
  · rw [if_pos c4] at h
    by_cases d : deep = 20
    · rw [if_pos d] at h; cases h
    · rw [if_neg d] at h; cases Option.some.inj h; exact bk_e
  rw [if_neg c4] at h
  by_cases c5 : K.c p = 5 ∨ K.c p = 6
  · rw [if_pos c5] at h
    exact vd_bk h
  rw [if_neg c5] at h
  by_cases c7 : K.c p = 7
  · rw [if_pos c7] at h
    exact ft_bk h (fun j q => vd_bk q)
  rw [if_neg c7] at h
  refine ft_bk h (fun j q => ?_)
  by_cases c9 : K.c j = 9
  · rw [if_pos c9] at q
    by_cases d : deep = 20
    · rw [if_pos d] at q; cases q
    · rw [if_neg d] at q; cases Option.some.inj q; rfl
  · rw [if_neg c9] at q
    exact vd_bk q
theorem gon_bk {kd pa : Nat} {cd : Bool} {f : Int} {w : WtJ} (h : gonE K M p deep (kd, (cd, (pa, (f, w)))) gs E = some A') : bk9 A'.2.2.2.2.1.1 A'.2.2.2.2.1.2 = bk9 (kd, (cd, (pa, (f, w)))) gs := by
  unfold gonE at h
  dsimp only at h
  by_cases c1 : (K.c p = 4 ∨ K.c p = 12 ∨ K.c p = 13) ∧ pa ≠ 2
  · rw [if_pos c1] at h
    cases Option.some.inj h; exact bk_e
  rw [if_neg c1] at h
  by_cases c2 : K.c p = 14 ∧ kd < 2 ∧ pa = 0
  · rw [if_pos c2] at h
    cases Option.some.inj h; exact bk_e
  rw [if_neg c2] at h
  by_cases c3 : K.c p = 15 ∧ kd < 2 ∧ pa = 0
  · rw [if_pos c3] at h
    refine ft_bk h (fun j q => ?_)
    cases Option.some.inj q; exact bk_e
  rw [if_neg c3] at h
  by_cases c4 : (K.c p = 16 ∨ K.c p = 17) ∧ kd < 2 ∧ 0 < pa
  · rw [if_pos c4] at h
    cases Option.some.inj h; exact bk_e
  rw [if_neg c4] at h
  by_cases c5 : (K.c p = 11 ∧ (kd = 2 ∨ (kd = 1 ∧ (0 < pa ∨ cd = false)))) ∨ (K.c p = 10 ∧ kd = 3)
  · rw [if_pos c5] at h
    cases gs with
    | nil => cases h
    | cons g2 gs2 =>
      obtain ⟨k2, cd2, pa2, f2, w2⟩ := g2
      unfold clsE at h
      dsimp only at h
      by_cases c : kd = 1 ∧ 0 < pa
      · rw [if_pos c] at h; cases Option.some.inj h; exact bk_e
      · rw [if_neg c] at h
        exact (vd_bk h : bk9 _ _ = bk9 (k2, (cd2, (pa2, (f2, w2)))) gs2)
  · rw [if_neg c5] at h; cases h
theorem cls_no {g : Gf} {gs : List Gf} {q : Nat} (h : cls9 K p deep g gs = .inr (true, q)) : False := by
  cases gs with
  | nil => cases h
  | cons g2 gs2 =>
    unfold cls9 at h
    dsimp only at h
    by_cases c : g.1 = 1 ∧ 0 < g.2.2.1
    · rw [if_pos c] at h; cases h
    · rw [if_neg c] at h
      unfold vdn at h
      cases h
theorem st_bk (h : stE K M A = some A') : bk9 A'.2.2.2.2.1.1 A'.2.2.2.2.1.2 = bk9 A.2.2.2.2.1.1 A.2.2.2.2.1.2 := by
  obtain ⟨wa, st, p, deep, ⟨⟨kd, cd, pa, f, w⟩, gs⟩, E⟩ := A
  cases wa with
  | true => exact wan_bk h
  | false => exact gon_bk h
end L30
/-- what a condition comes to: a fault, or its end (before what still waits is emitted) -/
noncomputable def CoM (X : Txt) (f0 B p0 : Nat) (σ τ : zS) : Prop := (∃ f : Nat, To (KT9 X) (.inl (X0 p0)) (.inr (false, f)) ∧ FrM f0 σ τ ∧ (τ.1 110 58).toInt = (f : Int)) ∨ ∃ (q deep kd pa : Nat) (cd : Bool) (f : Int) (w : WtJ) (E : List ItJ), To (KT9 X) (.inl (X0 p0)) (.inr (true, q)) ∧ ToE (KT9 X) (EmX X) (X0E p0) (false, (false, (q, (deep, (((kd, (cd, (pa, (f, w)))), []), E))))) ∧ FrM f0 σ τ ∧ TkM τ X q ∧ (p0 ≤ q ∧ q ≤ X.2) ∧ (τ.1 110 58).toInt < 0 ∧ StM τ f0 B q (ddE 0 deep w) 0 [(kd, (cd, (pa, (f, [])))) ] (E ++ itm9 w) 1
section L30b
variable {σ τ : zS} {X : Txt} {f0 B p0 : Nat} {Q : Unit → zS → Prop}
theorem ToE.one {K : Tkn} {M : EmJ} {A Y Z : AuE} (h : ToE K M A Y) (h' : stE K M Y = some Z) : ToE K M A Z := h.tr (ToE.st h' ToE.rf)
theorem wl_condM (k : ∀ τ', CoM X f0 B p0 σ τ' → Q () τ') : ∀ (N : Nat) (A : AuE) (τ : zS), TxM τ X → TkM τ X A.2.2.1 → A.2.2.1 ≤ X.2 → p0 ≤ A.2.2.1 → bk9 A.2.2.2.2.1.1 A.2.2.2.2.1.2 = 0 → FsM τ f0 B A → FrM f0 σ τ → ToE (KT9 X) (EmX X) (X0E p0) A → To (KT9 X) (.inl (X0 p0)) (.inl (prA A)) → X.2 - A.2.2.1 + 2 ≤ N → WL_M_condition N 1 τ Q
  | 0, _, _, _, _, _, _, _, _, _, _, _, hN => absurd hN (by omega)
  | N + 1, A, τ, tx, tk, hpX, hp0, hbk, fs, fr, te, ta, hN => by
    have w0 := fs.1.wf
    have e58 := fs.2.2.1
    have N1 : 1 ≤ N := by omega
    -- behind a step or a fault
    have nxt : ∀ (v : Int32) (τ' : zS), QwM X f0 B A τ τ' → (0 ≤ (τ'.1 110 58).toInt → v = 0 ∨ v = 1) → (¬ 0 ≤ (τ'.1 110 58).toInt → v = 1) → W_M_condition_b85 (WL_M_condition N) v τ' Q := fun v τ' q hv hv1 => by
      rcases q with ⟨A', h1, h2, h3, h4, h5, h6⟩ | ⟨fl, h1, h2, h3⟩
      · have d58 := h3.2.2.1
        have v1 : v = 1 := hv1 (by omega)
        subst v1
        refine ⟨fun z => absurd z (by decide), fun _ => ⟨fun z => absurd z (by omega), fun _ => ?_⟩⟩
        obtain ⟨e, e27, he, hs⟩ := h4
        have tx' := h2.tx tx
        refine w_token tx' e27 he (fun s3 f3 tk3 => ?_)
        rw [hs] at tk3
        refine wl_condM k N A' s3 (f3.tx tx') tk3 h6 (by omega) (by rw [st_bk h1]; exact hbk) ⟨h3.1.eq f3.v.ss, ⟨by rw [f3.1 110 61 (by omega)]; exact h3.2.1.1, by rw [f3.1 110 60 (by omega)]; exact h3.2.1.2⟩, by rw [f3.1 110 58 (by omega)]; exact d58, h3.2.2.2⟩ (fr.tr (h2.tr f3.v.m)) (te.one h1) (ta.tr (To.st (st_prj w0 h1) To.rf)) (by omega)
      · have fin : ∀ x1 : Int32, WL_M_condition N x1 τ' Q := fun x1 => by
          obtain ⟨N', rfl⟩ : ∃ N', N = N' + 1 := ⟨N - 1, by omega⟩
          have b103 : W_M_condition_b103 (WL_M_condition N') τ' Q := ⟨fun _ => k τ' (Or.inl ⟨fl, ta.tr (To.st h1 To.rf), fr.tr h2, h3⟩), fun z => absurd (by omega) z⟩
          exact wl_M_condition_55 ⟨fun _ => b103, fun _ => ⟨fun _ => b103, fun z => absurd (by omega) z⟩⟩
        exact ⟨fun _ => fin v, fun _ => ⟨fun _ => fin v, fun z => absurd (by omega) z⟩⟩
    obtain ⟨wa, st, p, deep, ⟨⟨kd, cd, pa, f, w⟩, gs⟩, E⟩ := A
    refine wl_M_condition_55 ⟨fun z => absurd z (by decide), fun _ => ⟨fun z => absurd z (by omega), fun _ => ⟨fun z => ?_, fun z => ?_⟩⟩⟩
    · cases wa with
      | true => exact absurd (fs.2.1.1.symm.trans z) (by show ¬ (1 : Int) = 0; decide)
      | false =>
        refine w_goesOnM tx tk hpX hbk fs (fun τ' v q => ?_)
        rcases q with ⟨q1, q2, q3⟩ | ⟨q1, q2, q3⟩
        · exact nxt v τ' q1 (fun z => Or.inl (q2 z)) q3
        · subst q1
          subst q3
          have hst : st = false := fs.2.2.2 rfl
          subst hst
          refine ⟨fun _ => ?_, fun z => absurd rfl z⟩
          obtain ⟨N', hN'⟩ : ∃ N', N = N' + 1 := ⟨N - 1, by omega⟩
          rw [hN']
          have hgs : gs = [] := by
            have q2 : gon (KT9 X) p deep (kd, (cd, (pa, w.map Prod.fst))) (gs.map prG) = .inr (true, p) := q2
            cases gs with
            | nil => rfl
            | cons g2 gs2 =>
              exfalso
              unfold gon at q2
              dsimp only at q2
              split at q2
              · cases q2
              · split at q2
                · cases q2
                · split at q2
                  · revert q2
                    unfold fto
                    split <;> intro q2 <;> cases q2
                  · split at q2
                    · cases q2
                    · split at q2
                      · exact cls_no q2
                      · rw [if_neg (fun z => by cases z.1)] at q2
                        cases q2
          subst hgs
          have b103 : W_M_condition_b103 (WL_M_condition N') τ' Q := by
            refine ⟨fun z => absurd z (by omega), fun _ => ?_⟩
            have s1 : StM τ' f0 B p deep 0 [(kd, (cd, (pa, (f, w))))] E 1 := fs.1
            refine w_reduceM 0 (by decide) s1 (fun s2 f2 st2 => ?_)
            rw [pop0.1, pop0.2] at st2
            exact k s2 (Or.inr ⟨p, deep, kd, pa, cd, f, w, E, ta.tr (To.st q2 To.rf), te, fr.tr f2.m, f2.tk tk, ⟨hp0, hpX⟩, by rw [f2.1 110 58 (by omega) (by omega) (by omega)]; exact e58, st2⟩)
          exact wl_M_condition_55 ⟨fun _ => b103, fun z => absurd rfl z⟩
    · cases wa with
      | false => exact absurd fs.2.1.1 z
      | true => exact w_wantedM tx tk hpX fs (fun τ' q => nxt 1 τ' q (fun _ => Or.inr rfl) (fun _ => rfl))
/-- a condition -/
theorem w_conditionM (tx : TxM τ X) (tk : TkM τ X p0) (hp : p0 ≤ X.2) (e46 : (τ.1 110 46).toInt = (f0 : Int)) (hf : f0 ≤ B + p0) (hB : B ≤ f0) (hB2 : B ≤ 9100) (e58 : (τ.1 110 58).toInt < 0) (k : ∀ τ', CoM X f0 B p0 τ τ' → Q () τ') : W_M_condition τ Q := by
  intro s1 e1 s2 e2 s3 e3 s4 e4 s5 e5 s6 e6 s7 e7 s8 e8 s9 e9
  have ci : ∀ k j : Nat, ¬ (k = 110 ∧ (j = 52 ∨ j = 56 ∨ j = 57 ∨ j = 60 ∨ j = 61)) → ¬ (143 ≤ k ∧ k ≤ 146 ∧ j = 0) → s9.1 k j = τ.1 k j := fun k j q q' => by rw [← e9, yI_ne (by omega), ← e8, yI_ne (by omega), ← e7, yI_ne (by omega), ← e6, yI_ne (by omega), ← e5, yI_ne (by omega), ← e4, yI_ne (by omega), ← e3, yI_ne (by omega), ← e2, yI_ne (by omega), ← e1, yI_ne (by omega)]
  have cl : s9.2 = τ.2 := by rw [← e9, yI_l, ← e8, yI_l, ← e7, yI_l, ← e6, yI_l, ← e5, yI_l, ← e4, yI_l, ← e3, yI_l, ← e2, yI_l, ← e1, yI_l]
  have fr : FrM f0 τ s9 := ⟨fun k j q q2 _ => ci k j (by omega) (by omega), fun k j _ _ => by rw [cl]⟩
  have fx : TkM s9 X p0 := by
    unfold TkM at tk ⊢
    rw [ci 110 29 (by omega) (by omega), ci 110 27 (by omega) (by omega), ci 110 28 (by omega) (by omega), ci 110 30 (by omega) (by omega), cl]
    exact tk
  have z1 : (1 : Int32).toInt = 1 := by decide
  have d60 : (s9.1 110 60).toInt = 1 := by rw [← e9, yI_at]; exact z1
  have d61 : (s9.1 110 61).toInt = 1 := by rw [← e9, yI_ne (by omega), ← e8, yI_at]; exact z1
  have d57 : (s9.1 110 57).toInt = 0 := by rw [← e9, yI_ne (by omega), ← e8, yI_ne (by omega), ← e7, yI_at]; exact t32_0
  have d56 : (s9.1 110 56).toInt = 0 := by rw [← e9, yI_ne (by omega), ← e8, yI_ne (by omega), ← e7, yI_ne (by omega), ← e6, yI_at]; exact t32_0
  have d146 : (s9.1 146 0).toInt = 0 := by rw [← e9, yI_ne (by omega), ← e8, yI_ne (by omega), ← e7, yI_ne (by omega), ← e6, yI_ne (by omega), ← e5, yI_at]; exact t32_0
  have d145 : (s9.1 145 0).toInt = 0 := by rw [← e9, yI_ne (by omega), ← e8, yI_ne (by omega), ← e7, yI_ne (by omega), ← e6, yI_ne (by omega), ← e5, yI_ne (by omega), ← e4, yI_at]; exact t32_0
  have d144 : (s9.1 144 0).toInt = 1 := by rw [← e9, yI_ne (by omega), ← e8, yI_ne (by omega), ← e7, yI_ne (by omega), ← e6, yI_ne (by omega), ← e5, yI_ne (by omega), ← e4, yI_ne (by omega), ← e3, yI_at]; exact z1
  have d143 : (s9.1 143 0).toInt = 0 := by rw [← e9, yI_ne (by omega), ← e8, yI_ne (by omega), ← e7, yI_ne (by omega), ← e6, yI_ne (by omega), ← e5, yI_ne (by omega), ← e4, yI_ne (by omega), ← e3, yI_ne (by omega), ← e2, yI_at]; exact t32_0
  have d52 : (s9.1 110 52).toInt = 0 := by rw [← e9, yI_ne (by omega), ← e8, yI_ne (by omega), ← e7, yI_ne (by omega), ← e6, yI_ne (by omega), ← e5, yI_ne (by omega), ← e4, yI_ne (by omega), ← e3, yI_ne (by omega), ← e2, yI_ne (by omega), ← e1, yI_at]; exact t32_0
  have hX := tx.1.2
  have em0 : EmL s9 f0 [] := fun i x hx => absurd (get_lt hx) (Nat.not_lt_zero _)
  have st : StM s9 f0 B p0 0 0 [(0, (true, (0, (0, []))))] [] 0 := by
    refine ⟨0, ⟨⟨d56, 0, ⟨⟨d143, d144, d145⟩, d146, fun z => absurd z (by decide)⟩, rfl, trivial, rfl⟩, by rw [d52]; rfl, d57, by omega, rfl⟩, ⟨by rw [ci 110 46 (by omega) (by omega)]; exact e46, em0, rfl⟩, ?_, hB, hB2, by omega⟩
    show f0 + 0 + 0 ≤ B + p0
    omega
  exact wl_condM k fuF (X0E p0) s9 (fr.tx tx) fx hp (Nat.le_refl _) rfl ⟨st, ⟨d61, d60⟩, by rw [ci 110 58 (by omega) (by omega)]; exact e58, fun z => no_tf z⟩ fr ToE.rf To.rf (by show X.2 - p0 + 2 ≤ 100000; omega)
end L30b
/-! ===== the reference's rule: its head ===== -/
section L31
variable {σ τ : zS} {X : Txt} {p : Nat} {Q : Int32 → zS → Prop}
theorem wl_numM {τ : zS} {p E : Nat} (hx : TxM τ X) (hE : E ≤ X.2) (e27 : (τ.1 110 27).toInt = (E : Int)) (hE2 : E - p ≤ 10) (hp : p < E) (k1 : ∀ v : Int32, v.toInt = nm9 X (E - p - 1) (p + 1) 0 → (∀ i, p + 1 ≤ i → i < E → fi9 X i = true) → Q v τ) (k0 : (¬ ∀ i, p + 1 ≤ i → i < E → fi9 X i = true) → Q (-1) τ) : ∀ (N : Nat) (x3 x4 : Int32) (i : Nat), x4.toInt = (i : Int) → p + 1 ≤ i → i ≤ E → (∀ j, p + 1 ≤ j → j < i → fi9 X j = true) → 0 ≤ x3.toInt ∧ x3.toInt < 10 ^ (i - p - 1) → nm9 X (E - i) i x3.toInt = nm9 X (E - p - 1) (p + 1) 0 → E - i + 2 ≤ N → WL_M_numbered N x3 x4 τ Q
  | 0, _, _, _, _, _, _, _, _, _, h => absurd h (by omega)
  | N + 1, x3, x4, i, h4, hi1, hi2, hf, hv, hm, hN => by
    have ih := wl_numM hx hE e27 hE2 hp k1 k0 N
    have hX := hx.1.2
    refine wl_M_numbered_55 ?_
    refine ⟨fun q => ?_, fun q => ?_⟩
    · have e : i = E := by omega
      subst e
      rw [Nat.sub_self] at hm
      exact k1 x3 hm hf
    · refine w_byteAt (p := i) hx h4 (fun v2 hv2 => w_isFigureM hv2 (fun f1 => ⟨fun z => absurd z (by decide), fun _ => ?_⟩) (fun f0 => ⟨fun _ => k0 (fun a => absurd (a i hi1 (by omega)) (by rw [f0]; decide)), fun z => absurd rfl z⟩))
      have hb := fi_by f1
      have mono : (10 : Int) ^ (i - p - 1) ≤ 100000000 := by
        have key : ∀ c, c < 9 → (10 : Int) ^ c ≤ 100000000 := by decide
        exact key _ (by omega)
      refine ⟨by omega, fun r5 q5 => w_byteAt (p := i) hx h4 (fun v6 hv6 => ⟨by omega, fun r7 q7 => ⟨by omega, fun r8 q8 => ⟨by omega, fun r9 q9 => ?_⟩⟩⟩)⟩
      refine ih r8 r9 (i + 1) (by omega) (by omega) (by omega) (fun i' a b => ?_) ?_ ?_ (by omega)
      · by_cases g : i' = i
        · subst g; exact f1
        · exact hf i' a (by omega)
      · have e : (10 : Int) ^ (i + 1 - p - 1) = 10 ^ (i - p - 1) * 10 := by rw [show i + 1 - p - 1 = i - p - 1 + 1 by omega, Int.pow_succ]
        rw [e]
        omega
      · rw [← hm, show E - i = (E - (i + 1)) + 1 by omega]
        show _ = nm9 X (E - (i + 1)) (i + 1) (x3.toInt * 10 + by9 X i - 48)
        rw [show r8.toInt = x3.toInt * 10 + by9 X i - 48 by omega]
theorem w_numberedM {c : Int32} (tx : TxM τ X) (tk : TkM τ X p) (hpX : p ≤ X.2) (k : ∀ v : Int32, (0 ≤ nb9 X p c.toInt → v.toInt = nb9 X p c.toInt) → (nb9 X p c.toInt < 0 → v.toInt = -1) → v.toInt < 1000000000 → Q v τ) : W_M_numbered c τ Q := by
  have hX := tx.1.2
  obtain ⟨⟨e29, e27, e28⟩, _⟩ := tk
  have tl := te_L hpX
  have tg : p ≤ te9 X p := te_le
  have z1 : (-1 : Int32).toInt = -1 := by decide
  have no : ¬ (kd9 X p = 1 ∧ by9 X p = c.toInt ∧ (2 ≤ te9 X p - p ∧ te9 X p - p ≤ 10) ∧ ∀ i, p + 1 ≤ i → i < te9 X p → fi9 X i = true) → Q (-1) τ := fun q => by
    have e := nb_f q
    exact k (-1) (fun z => absurd z (by omega)) (fun _ => z1) (by omega)
  refine ⟨by omega, fun r1 q1 => ⟨by omega, fun r2 q2 => ⟨fun c1 => ?_, fun c1 => no (fun q => c1 (by rw [e28, q.1]; rfl))⟩⟩⟩
  have hk : kd9 X p = 1 := by omega
  have te := te_lt (kd1_by hk)
  refine w_byteAt (p := p) tx e29 (fun v4 hv4 => ⟨fun c2 => ⟨fun c3 => no (fun w => by have := w.2.2.1; omega), fun c3 => ⟨fun c4 => ⟨by omega, fun r8 q8 => ?_⟩, fun c4 => no (fun w => by have := w.2.2.1; omega)⟩⟩, fun c2 => no (fun q => c2 (by rw [hv4]; exact q.2.1))⟩)
  refine wl_numM (p := p) (E := te9 X p) tx te.2 e27 (by omega) te.1 (fun v hv hf => ?_) (fun hf => no (fun w => hf w.2.2.2)) fuF 0 r8 (p + 1) (by omega) (Nat.le_refl _) (by omega) (fun i' a b => absurd b (by omega)) ?_ ?_ (by show te9 X p - (p + 1) + 2 ≤ 100000; omega)
  · have e := nb_t (c := c.toInt) hk (by omega) (by omega) hf
    have bd := nm_in (X := X) (k := te9 X p - p - 1) (p := p + 1) (v := 0) (b := 0) (by decide) (by decide) (fun i a b => hf i a (by omega))
    have mono : (10 : Int) ^ (0 + (te9 X p - p - 1)) ≤ 1000000000 := by
      have key : ∀ c, c < 10 → (10 : Int) ^ (0 + c) ≤ 1000000000 := by decide
      exact key _ (by omega)
    exact k v (fun _ => by rw [e]; exact hv) (fun z => absurd z (by rw [e]; omega)) (by omega)
  · rw [show p + 1 - p - 1 = 0 by omega]; decide
  · rw [show te9 X p - (p + 1) = te9 X p - p - 1 by omega]; rfl
/-- a rule's frame: the rule's own cells, the token, the fault -/
noncomputable def FrR (n : Nat) (σ τ : zS) : Prop := (∀ k j : Nat, ¬ (k = 110 ∧ ((27 ≤ j ∧ j ≤ 30) ∨ j = 58)) → ¬ (132 ≤ k ∧ k ≤ 140 ∧ j = n) → τ.1 k j = σ.1 k j) ∧ ∀ k j : Nat, ¬ (k = 110 ∧ j = 31) → τ.2 k j = σ.2 k j
theorem FrR.rf {n : Nat} {a : zS} : FrR n a a := ⟨fun _ _ _ _ => rfl, fun _ _ _ => rfl⟩
theorem FrR.tr {n : Nat} {a b c : zS} (h : FrR n a b) (h' : FrR n b c) : FrR n a c := ⟨fun k j q q2 => (h'.1 k j q q2).trans (h.1 k j q q2), fun k j q => (h'.2 k j q).trans (h.2 k j q)⟩
theorem FrR.i {n : Nat} {a b : zS} {k j : Nat} {x : Int32} (hk : (k = 110 ∧ ((27 ≤ j ∧ j ≤ 30) ∨ j = 58)) ∨ (132 ≤ k ∧ k ≤ 140 ∧ j = n)) (e : zI a k j x = b) : FrR n a b := ⟨fun k' j' q q2 => by rw [← e, yI_ne (by omega)], fun k' j' _ => by rw [← e, yI_l]⟩
theorem FrKt.r {n : Nat} {a b : zS} (h : FrKt a b) : FrR n a b := ⟨fun k j q q2 => h.1 k j (by omega), fun k j q => h.2 k j q⟩
theorem FrR.tx {n : Nat} {a b : zS} (h : FrR n a b) (hx : TxM a X) : TxM b X := ⟨⟨by rw [h.1 110 1 (by omega) (by omega)]; exact hx.1.1, hx.1.2⟩, fun p hp => by rw [h.1 111 p (by omega) (by omega)]; exact hx.2 p hp⟩
/-- one of the rule's cells is written -/
theorem TkM.r {a b : zS} {k j : Nat} {x : Int32} (hk : k ≠ 110) (e : zI a k j x = b) (h : TkM a X p) : TkM b X p := by
  unfold TkM at h ⊢
  rw [← e, yI_ne (by omega), yI_ne (by omega), yI_ne (by omega), yI_ne (by omega), yI_l]
  exact h
variable {n : Nat} {a : Int32}
/-- it fails here -/
theorem w_failsM {R : Int32 → zS → Prop} (e29 : (τ.1 110 29).toInt = (p : Int)) (k : ∀ τ', FrR n τ τ' → (τ'.1 110 58).toInt = (p : Int) → R 0 τ') : W_M_fails τ R := fun s1 e1 => k s1 (FrR.i (by omega) e1) (by rw [← e1, yI_at]; exact e29)
theorem w_isEffectM (tk : TkM τ X p) (ha : a.toInt = (n : Int)) (hn : n < 240) (k1 : ∀ τ', FrR n τ τ' → TkM τ' X p → τ'.1 110 58 = τ.1 110 58 → in9 37 39 (rc9 X p) = true → (τ'.1 132 n).toInt = (rc9 X p : Int) - 37 → Q 1 τ') (k0 : ∀ τ', FrR n τ τ' → in9 37 39 (rc9 X p) = false → (τ'.1 110 58).toInt = (p : Int) → Q 0 τ') : W_M_isEffect a τ Q := by
  have ok : ∀ y : Int32, (37 ≤ rc9 X p ∧ rc9 X p ≤ 39) → y.toInt = (rc9 X p : Int) - 37 → W_M_isEffect_b64 a y a τ Q := fun y hc hy => by
    refine ⟨n, ha, hn, fun s2 e2 => ⟨n, ha, hn, fun z => k1 s2 (FrR.i (by omega) e2) (tk.r (by decide) e2) (by rw [← e2, yI_ne (by omega)]) (in9_iff.mpr hc) (by rw [← e2, yI_at]; exact hy), fun z => absurd (by rw [← e2, yI_at, hy]; omega) z⟩⟩
  refine w_isWordM 37 tk (fun c => ⟨fun z => absurd z (by decide), fun _ => ok 0 (by omega) (by rw [c]; decide)⟩) (fun c1 => ⟨fun _ => ?_, fun z => absurd rfl z⟩)
  refine w_isWordM 38 tk (fun c => ⟨fun z => absurd z (by decide), fun _ => ok 1 (by omega) (by rw [c]; decide)⟩) (fun c2 => ⟨fun _ => ?_, fun z => absurd rfl z⟩)
  refine w_isWordM 39 tk (fun c => ⟨fun z => absurd z (by decide), fun _ => ok 2 (by omega) (by rw [c]; decide)⟩) (fun c3 => ⟨fun _ => ?_, fun z => absurd rfl z⟩)
  refine ⟨n, ha, hn, fun s2 e2 => ⟨n, ha, hn, fun z => absurd z (by rw [← e2, yI_at]; decide), fun z => w_failsM (n := n) (tk.r (by decide) e2).1.1 (fun s5 f5 h5 => ⟨fun _ => k0 s5 ((FrR.i (by omega) e2).tr f5) (in9_no (by omega)) h5, fun z => absurd rfl z⟩)⟩⟩
end L31
/-! ===== the reference's rule: who, what, which thing ===== -/
noncomputable def WlM (σ : zS) (w : Wld) : Prop := ((σ.1 110 6).toInt = w.1 ∧ 0 ≤ w.1 ∧ w.1 ≤ 1000) ∧ ((σ.1 110 7).toInt = w.2.1 ∧ 0 ≤ w.2.1 ∧ w.2.1 ≤ 1000) ∧ (0 ≤ (σ.1 110 20).toInt ∧ (σ.1 110 20).toInt ≤ 40) ∧ ∀ t : Nat, w.2.2 (t : Int) = true ↔ (t : Int) < (σ.1 110 20).toInt ∧ (σ.1 128 t).toInt = 0
/-- things, as the reference keeps them: 1 alone, 2 with all in it -/
noncomputable def ThM (X : Txt) (w : Wld) (p : Nat) (k v : Int) (q : Nat) : Prop := (rc9 X p = 34 ∧ k = 0 ∧ q = nx9t X p) ∨ (rc9 X p ≠ 34 ∧ thg9 X w p = true ∧ v = nb9 X p 116 ∧ ((rc9 X (nx9t X p) = 11 ∧ k = 2 ∧ q = nx9t X (nx9t X p)) ∨ (rc9 X (nx9t X p) ≠ 11 ∧ k = 1 ∧ q = nx9t X p)))
section L32
variable {σ τ : zS} {X : Txt} {p n : Nat} {w : Wld} {a : Int32} {Q : Int32 → zS → Prop}
theorem FrR.wl {s t : zS} (h : FrR n s t) (hw : WlM s w) : WlM t w := by
  unfold WlM at hw ⊢
  rw [h.1 110 6 (by omega) (by omega), h.1 110 7 (by omega) (by omega), h.1 110 20 (by omega) (by omega)]
  refine ⟨hw.1, hw.2.1, hw.2.2.1, fun t' => ?_⟩
  rw [h.1 128 t' (by omega) (by omega)]
  exact hw.2.2.2 t'
theorem w_inM {r1 r3 : Int64} {lo hi v : Int} (h1 : r1.toInt = v) (h3 : r3.toInt = hi - 1) (k1 : 0 ≤ v → v < hi → Q 1 τ) (k0 : ¬ (0 ≤ v ∧ v < hi) → Q 0 τ) : W_M_in r1 0 r3 τ (fun v4 σ4 => (v4 = 0 ∨ v4 = 1) ∧ Q v4 σ4) := by
  have z0 : (0 : Int64).toInt = 0 := by decide
  exact ⟨fun c => ⟨Or.inl rfl, k0 (by omega)⟩, fun c => ⟨fun d => ⟨Or.inl rfl, k0 (by omega)⟩, fun d => ⟨Or.inr rfl, k1 (by omega) (by omega)⟩⟩⟩
theorem w_isPersonM (hw : WlM τ w) (k1 : 0 ≤ a.toInt → a.toInt < w.1 → Q 1 τ) (k0 : ¬ (0 ≤ a.toInt ∧ a.toInt < w.1) → Q 0 τ) : W_M_isPerson a τ Q := by
  have h := hw.1
  exact fun r1 h1 => ⟨by omega, fun r2 h2 r3 h3 => w_inM (lo := 0) (hi := w.1) h1 (by omega) k1 k0⟩
theorem w_isGroupM (hw : WlM τ w) (k1 : 0 ≤ a.toInt → a.toInt < w.2.1 → Q 1 τ) (k0 : ¬ (0 ≤ a.toInt ∧ a.toInt < w.2.1) → Q 0 τ) : W_M_isGroup a τ Q := by
  have h := hw.2.1
  exact fun r1 h1 => ⟨by omega, fun r2 h2 r3 h3 => w_inM (lo := 0) (hi := w.2.1) h1 (by omega) k1 k0⟩
theorem w_isThingM (hw : WlM τ w) (k1 : 0 ≤ a.toInt → a.toInt < (τ.1 110 20).toInt → Q 1 τ) (k0 : ¬ (0 ≤ a.toInt ∧ a.toInt < (τ.1 110 20).toInt) → Q 0 τ) : W_M_isThing a τ Q := by
  have h := hw.2.2.1
  exact fun r1 h1 => ⟨by omega, fun r2 h2 r3 h3 => w_inM (lo := 0) (hi := (τ.1 110 20).toInt) h1 (by omega) k1 k0⟩
theorem w_isHereM (hw : WlM τ w) (k1 : 0 ≤ a.toInt → w.2.2 a.toInt = true → Q 1 τ) (k0 : ¬ (0 ≤ a.toInt ∧ w.2.2 a.toInt = true) → Q 0 τ) : W_M_isHere a τ Q := by
  have wi := hw.2.2.2 a.toInt.toNat
  have h40 := hw.2.2.1
  refine w_isThingM hw (fun c1 c2 => ⟨fun z => absurd z (by decide), fun _ => ?_⟩) (fun c => ⟨fun _ => k0 (fun z => ?_), fun z => absurd rfl z⟩)
  · have ei : ((a.toInt.toNat : Nat) : Int) = a.toInt := by omega
    rw [ei] at wi
    exact ⟨a.toInt.toNat, by omega, by omega, fun d => k1 c1 (wi.mpr ⟨c2, d⟩), fun d => k0 (fun z => d (wi.mp z.2).2)⟩
  · have ei : ((a.toInt.toNat : Nat) : Int) = a.toInt := by omega
    rw [ei] at wi
    exact c ⟨z.1, (wi.mp z.2).1⟩
theorem w_isWhoM (tx : TxM τ X) (tk : TkM τ X p) (hpX : p ≤ X.2) (hw : WlM τ w) (ha : a.toInt = (n : Int)) (hn : n < 240) (k1 : ∀ τ', FrR n τ τ' → TkM τ' X p → τ'.1 110 58 = τ.1 110 58 → (∀ k j : Nat, k ≠ 133 → k ≠ 134 → τ'.1 k j = τ.1 k j) → who9 X w p = true → WhR X w p (τ'.1 133 n).toInt (τ'.1 134 n).toInt → Q 1 τ') (k0 : ∀ τ', FrR n τ τ' → who9 X w p = false → (τ'.1 110 58).toInt = (p : Int) → Q 0 τ') : W_M_isWho a τ Q := by
  have z0 : (0 : Int32).toInt = 0 := by decide
  have z1 : (1 : Int32).toInt = 1 := by decide
  have z2 : (2 : Int32).toInt = 2 := by decide
  have z3 : (3 : Int32).toInt = 3 := by decide
  have zm : (-1 : Int32).toInt = -1 := by decide
  have z112 : (112 : Int32).toInt = 112 := by decide
  have z103 : (103 : Int32).toInt = 103 := by decide
  have ok : ∀ (y : Int32), 0 ≤ y.toInt → (rc9 X p = 34 ∧ y.toInt = 0) ∨ (rc9 X p = 35 ∧ y.toInt = 2) → W_M_isWho_b44 a y a τ Q := fun y h0 hc => by
    refine ⟨n, ha, hn, fun s2 e2 => ⟨n, ha, hn, fun s4 e4 => ?_⟩⟩
    have d133 : s4.1 133 n = y := by rw [← e4, yI_ne (by omega), ← e2, yI_at]
    refine ⟨fun z => ⟨n, ha, hn, fun z => ?_, fun z => absurd (by rw [d133]; exact h0) z⟩, fun z => absurd (by rw [d133]; exact h0) z⟩
    refine k1 s4 ((FrR.i (by omega) e2).tr (FrR.i (by omega) e4)) ((tk.r (by decide) e2).r (by decide) e4) (by rw [← e4, yI_ne (by omega), ← e2, yI_ne (by omega)]) (fun k j q q' => by rw [← e4, yI_ne (by omega), ← e2, yI_ne (by omega)]) (who_t (Or.inl (by omega))) ?_
    rw [d133]
    rcases hc with hc | hc
    · exact Or.inl hc
    · exact Or.inr (Or.inl hc)
  refine w_isWordM 34 tk (fun c => ⟨fun z => absurd z (by decide), fun _ => ok 0 (by omega) (Or.inl ⟨c, z0⟩)⟩) (fun c1 => ⟨fun _ => ?_, fun z => absurd rfl z⟩)
  refine w_isWordM 35 tk (fun c => ⟨fun z => absurd z (by decide), fun _ => ok 2 (by omega) (Or.inr ⟨c, z2⟩)⟩) (fun c2 => ⟨fun _ => ?_, fun z => absurd rfl z⟩)
  refine ⟨n, ha, hn, fun s2 e2 => ⟨n, ha, hn, fun s4 e4 => ?_⟩⟩
  have d133 : s4.1 133 n = -1 := by rw [← e4, yI_ne (by omega), ← e2, yI_at]
  refine ⟨fun z => absurd z (by rw [d133]; omega), fun _ => ?_⟩
  have f4 : FrR n τ s4 := (FrR.i (by omega) e2).tr (FrR.i (by omega) e4)
  have tk4 := (tk.r (by decide) e2).r (X := X) (p := p) (by decide) e4
  have c4 : ∀ k j : Nat, k ≠ 133 → k ≠ 134 → s4.1 k j = τ.1 k j := fun k j q q' => by rw [← e4, yI_ne (by omega), ← e2, yI_ne (by omega)]
  refine w_numberedM (f4.tx tx) tk4 hpX (fun v6 a1 a2 a3 => w_numberedM (f4.tx tx) tk4 hpX (fun v7 b1 b2 b3 => ?_))
  rw [z112] at a1 a2
  rw [z103] at b1 b2
  have hw4 := f4.wl hw
  have b105 : ∀ (y : Int32) (v : Int32), ((0 ≤ v6.toInt ∧ v6.toInt < w.1) → v = v6) → (¬ (0 ≤ v6.toInt ∧ v6.toInt < w.1) → v = v7) → (0 ≤ y.toInt → who9 X w p = true ∧ WhR X w p y.toInt v.toInt) → (¬ 0 ≤ y.toInt → who9 X w p = false) → W_M_isWho_b105 a v6 v7 y a s4 Q := fun y v hv1 hv2 hy1 hy0 => by
    refine ⟨n, ha, hn, fun s5 e5 => ?_⟩
    have f5 : FrR n τ s5 := f4.tr (FrR.i (by omega) e5)
    have tk5 := tk4.r (X := X) (p := p) (by decide) e5
    have fin : ∀ s6 : zS, zI s5 134 n v = s6 → W_M_isWho_b125 a s6 Q := fun s6 e6 => by
      have d : s6.1 133 n = y := by rw [← e6, yI_ne (by omega), ← e5, yI_at]
      have d2 : s6.1 134 n = v := by rw [← e6, yI_at]
      have tk6 := tk5.r (X := X) (p := p) (by decide) e6
      have f6 : FrR n τ s6 := f5.tr (FrR.i (by omega) e6)
      have c6 : ∀ k j : Nat, k ≠ 133 → k ≠ 134 → s6.1 k j = τ.1 k j := fun k j q q' => by rw [← e6, yI_ne (by omega), ← e5, yI_ne (by omega)]; exact c4 k j q q'
      refine ⟨n, ha, hn, fun z => ?_, fun z => ?_⟩
      · rw [d] at z
        obtain ⟨g1, g2⟩ := hy1 z
        exact k1 s6 f6 tk6 (c6 110 58 (by decide) (by decide)) c6 g1 (by rw [d, d2]; exact g2)
      · rw [d] at z
        exact w_failsM (n := n) tk6.1.1 (fun s7 f7 h7 => ⟨fun _ => k0 s7 (f6.tr f7) (hy0 z) h7, fun z => absurd rfl z⟩)
    refine w_isPersonM (f5.wl hw) (fun q1 q2 => ⟨fun z => absurd z (by decide), fun _ => ⟨n, ha, hn, fun s6 e6 => fin s6 (by rw [hv1 ⟨q1, q2⟩]; exact e6)⟩⟩) (fun q => ⟨fun _ => ⟨n, ha, hn, fun s6 e6 => fin s6 (by rw [hv2 q]; exact e6)⟩, fun z => absurd rfl z⟩)
  have np : ¬ (0 ≤ v6.toInt ∧ v6.toInt < w.1) → ¬ (0 ≤ nb9 X p 112 ∧ nb9 X p 112 < w.1) := fun q z => by have := a1 z.1; omega
  have ng : ¬ (0 ≤ v7.toInt ∧ v7.toInt < w.2.1) → ¬ (0 ≤ nb9 X p 103 ∧ nb9 X p 103 < w.2.1) := fun q z => by have := b1 z.1; omega
  have p6 : 0 ≤ v6.toInt → v6.toInt = nb9 X p 112 := fun q => by
    by_cases z : 0 ≤ nb9 X p 112
    · exact a1 z
    · have := a2 (by omega); omega
  have p7 : 0 ≤ v7.toInt → v7.toInt = nb9 X p 103 := fun q => by
    by_cases z : 0 ≤ nb9 X p 103
    · exact b1 z
    · have := b2 (by omega); omega
  refine w_isPersonM hw4 (fun q1 q2 => ⟨fun z => absurd z (by decide), fun _ => ?_⟩) (fun q => ⟨fun _ => ?_, fun z => absurd rfl z⟩)
  · have e := p6 q1
    exact b105 3 v6 (fun _ => rfl) (fun z => absurd ⟨q1, q2⟩ z) (fun _ => ⟨who_t (Or.inr (Or.inl ⟨by omega, by omega⟩)), Or.inr (Or.inr ⟨c1, c2, Or.inl ⟨by omega, by omega, z3, e⟩⟩)⟩) (fun z => absurd (by omega) z)
  · refine w_isGroupM hw4 (fun g1 g2 => ⟨fun z => absurd z (by decide), fun _ => ?_⟩) (fun g => ⟨fun _ => ?_, fun z => absurd rfl z⟩)
    · have e := p7 g1
      exact b105 1 v7 (fun z => absurd z q) (fun _ => rfl) (fun _ => ⟨who_t (Or.inr (Or.inr ⟨by omega, by omega⟩)), Or.inr (Or.inr ⟨c1, c2, Or.inr ⟨np q, by omega, by omega, z1, e⟩⟩)⟩) (fun z => absurd (by omega) z)
    · exact b105 (-1) v7 (fun z => absurd z q) (fun _ => rfl) (fun z => absurd z (by omega)) (fun _ => who_f ⟨c1, c2⟩ (np q) (ng g))
theorem w_isActM (tk : TkM τ X p) (ha : a.toInt = (n : Int)) (hn : n < 240) (k1 : ∀ τ', FrR n τ τ' → TkM τ' X p → (∀ k j : Nat, k ≠ 135 → τ'.1 k j = τ.1 k j) → act9 (rc9 X p) = true → (τ'.1 135 n).toInt = acN (rc9 X p) → Q 1 τ') (k0 : ∀ τ', FrR n τ τ' → act9 (rc9 X p) = false → (τ'.1 110 58).toInt = (p : Int) → Q 0 τ') : W_M_isAct a τ Q := by
  have ai := act_iff (rc9 X p) (Nat.lt_succ_of_le rc_le)
  have ok : ∀ (y : Int32) (c : Nat), rc9 X p = c → act9 c = true → y.toInt = acN c → 0 ≤ y.toInt → W_M_isAct_b128 a y a τ Q := fun y c hc h1 h2 h0 => by
    refine ⟨n, ha, hn, fun s2 e2 => ⟨n, ha, hn, fun z => k1 s2 (FrR.i (by omega) e2) (tk.r (by decide) e2) (fun k j q => by rw [← e2, yI_ne (by omega)]) (by rw [hc]; exact h1) (by rw [← e2, yI_at, hc]; exact h2), fun z => absurd (by rw [← e2, yI_at]; exact h0) z⟩⟩
  refine w_isWordM 36 tk (fun c => ⟨fun z => absurd z (by decide), fun _ => ok 6 36 c (by decide) (by decide) (by decide)⟩) (fun c1 => ⟨fun _ => ?_, fun z => absurd rfl z⟩)
  refine w_isWordM 48 tk (fun c => ⟨fun z => absurd z (by decide), fun _ => ok 0 48 c (by decide) (by decide) (by decide)⟩) (fun c2 => ⟨fun _ => ?_, fun z => absurd rfl z⟩)
  refine w_isWordM 49 tk (fun c => ⟨fun z => absurd z (by decide), fun _ => ok 1 49 c (by decide) (by decide) (by decide)⟩) (fun c3 => ⟨fun _ => ?_, fun z => absurd rfl z⟩)
  refine w_isWordM 50 tk (fun c => ⟨fun z => absurd z (by decide), fun _ => ok 2 50 c (by decide) (by decide) (by decide)⟩) (fun c4 => ⟨fun _ => ?_, fun z => absurd rfl z⟩)
  refine w_isWordM 43 tk (fun c => ⟨fun z => absurd z (by decide), fun _ => ok 3 43 c (by decide) (by decide) (by decide)⟩) (fun c5 => ⟨fun _ => ?_, fun z => absurd rfl z⟩)
  refine w_isWordM 46 tk (fun c => ⟨fun z => absurd z (by decide), fun _ => ok 4 46 c (by decide) (by decide) (by decide)⟩) (fun c6 => ⟨fun _ => ?_, fun z => absurd rfl z⟩)
  refine w_isWordM 51 tk (fun c => ⟨fun z => absurd z (by decide), fun _ => ok 5 51 c (by decide) (by decide) (by decide)⟩) (fun c7 => ⟨fun _ => ?_, fun z => absurd rfl z⟩)
  have af : act9 (rc9 X p) = false := by
    cases e : act9 (rc9 X p) with
    | false => rfl
    | true => exact absurd (ai.mp e) (by omega)
  clear ai
  refine ⟨n, ha, hn, fun s2 e2 => ⟨n, ha, hn, fun z => absurd z (by rw [← e2, yI_at]; decide), fun z => w_failsM (n := n) (tk.r (by decide) e2).1.1 (fun s5 f5 h5 => ⟨fun _ => k0 s5 ((FrR.i (by omega) e2).tr f5) af h5, fun z => absurd rfl z⟩)⟩⟩
end L32
section L33
variable {τ : zS} {X : Txt} {p n : Nat} {w : Wld} {a : Int32} {Q : Int32 → zS → Prop}
theorem thg_f (h : ¬ (0 ≤ nb9 X p 116 ∧ w.2.2 (nb9 X p 116) = true)) : thg9 X w p = false := by
  unfold thg9
  by_cases z : 0 ≤ nb9 X p 116
  · cases e : w.2.2 (nb9 X p 116) with
    | false => rw [Bool.and_false]
    | true => exact absurd ⟨z, e⟩ h
  · rw [decide_eq_false z, Bool.false_and]
theorem w_isRuleThingM (tx : TxM τ X) (tk : TkM τ X p) (hpX : p ≤ X.2) (hw : WlM τ w) (ha : a.toInt = (n : Int)) (hn : n < 240) (k1 : ∀ τ' q, FrR n τ τ' → TkM τ' X q → q ≤ X.2 → p < q → τ'.1 110 58 = τ.1 110 58 → (∀ k j : Nat, k ≠ 110 → k ≠ 136 → k ≠ 137 → τ'.1 k j = τ.1 k j) → ThM X w p (τ'.1 136 n).toInt (τ'.1 137 n).toInt q → Q 1 τ') (k0 : ∀ τ', FrR n τ τ' → rc9 X p ≠ 34 → thg9 X w p = false → (τ'.1 110 58).toInt = (p : Int) → Q 0 τ') : W_M_isRuleThing a τ Q := by
  have z0 : (0 : Int32).toInt = 0 := by decide
  have z1 : (1 : Int32).toInt = 1 := by decide
  have z2 : (2 : Int32).toInt = 2 := by decide
  have zm : (-1 : Int32).toInt = -1 := by decide
  have z116 : (116 : Int32).toInt = 116 := by decide
  refine w_numberedM tx tk hpX (fun v1 a1 a2 a3 => ⟨n, ha, hn, fun s3 e3 => ?_⟩)
  rw [z116] at a1 a2
  have f3 : FrR n τ s3 := FrR.i (by omega) e3
  have tk3 := tk.r (X := X) (p := p) (by decide) e3
  have d137 : s3.1 137 n = v1 := by rw [← e3, yI_at]
  have p1 : 0 ≤ v1.toInt → v1.toInt = nb9 X p 116 := fun q => by
    by_cases z : 0 ≤ nb9 X p 116
    · exact a1 z
    · have := a2 (by omega); omega
  have bad : rc9 X p ≠ 34 → ¬ (0 ≤ nb9 X p 116 ∧ w.2.2 (nb9 X p 116) = true) → W_M_isRuleThing_b55 a (-1) a s3 Q := fun c h => by
    refine ⟨n, ha, hn, fun s4 e4 => ⟨n, ha, hn, fun z => absurd z (by rw [← e4, yI_at]; omega), fun _ => w_failsM (n := n) (tk3.r (X := X) (p := p) (by decide) e4).1.1 (fun s5 f5 h5 => ⟨Or.inl rfl, k0 s5 (f3.tr ((FrR.i (by omega) e4).tr f5)) c (thg_f h) h5⟩)⟩⟩
  refine w_isWordM 34 tk3 (fun c => ⟨fun z => absurd z (by decide), fun _ => ?_⟩) (fun c => ⟨fun _ => ⟨fun z => bad c (fun q => by have := a1 q.1; omega), fun z => ?_⟩, fun z => absurd rfl z⟩)
  · have nl := nx_lt (X := X) (p := p) (by omega)
    refine ⟨n, ha, hn, fun s4 e4 => ⟨n, ha, hn, fun _ => ?_, fun z => absurd (by rw [← e4, yI_at]; omega) z⟩⟩
    have f4 : FrR n τ s4 := f3.tr (FrR.i (by omega) e4)
    have tk4 := tk3.r (X := X) (p := p) (by decide) e4
    refine w_token (f4.tx tx) tk4.1.2.1 (te_L hpX) (fun s5 f5 tk5 => ?_)
    have tk5 : TkM s5 X (nx9t X p) := tk5
    have d136 : s5.1 136 n = 0 := by rw [f5.1 136 n (by omega), ← e4, yI_at]
    refine ⟨fun z => absurd z (by rw [d136]; omega), fun _ => k1 s5 (nx9t X p) (f4.tr f5.r) tk5 nl.2 nl.1 (by rw [f5.1 110 58 (by omega), ← e4, yI_ne (by omega), ← e3, yI_ne (by omega)]) (fun k j q q' q'' => by rw [f5.1 k j (by omega), ← e4, yI_ne (by omega), ← e3, yI_ne (by omega)]) (Or.inl ⟨c, by rw [d136]; exact z0, rfl⟩)⟩
  · have e1 := p1 (by omega)
    refine w_isHereM (f3.wl hw) (fun q1 q2 => ⟨fun z => absurd z (by decide), fun _ => ?_⟩) (fun q => ⟨fun _ => bad c (fun z => q (by rw [e1]; exact z)), fun z => absurd rfl z⟩)
    rw [e1] at q2
    have n1 : 0 ≤ nb9 X p 116 := by omega
    have thg : thg9 X w p = true := by unfold thg9; rw [decide_eq_true n1, q2]; rfl
    have nl := nx_lt (X := X) (p := p) (kd_2 (nb_kd n1))
    refine ⟨n, ha, hn, fun s4 e4 => ⟨n, ha, hn, fun _ => ?_, fun z => absurd (by rw [← e4, yI_at]; omega) z⟩⟩
    have f4 : FrR n τ s4 := f3.tr (FrR.i (by omega) e4)
    have tk4 := tk3.r (X := X) (p := p) (by decide) e4
    refine w_token (f4.tx tx) tk4.1.2.1 (te_L hpX) (fun s5 f5 tk5 => ?_)
    have tk5 : TkM s5 X (nx9t X p) := tk5
    have f5' : FrR n τ s5 := f4.tr f5.r
    have c5 : ∀ k j : Nat, k ≠ 110 → k ≠ 136 → k ≠ 137 → s5.1 k j = τ.1 k j := fun k j q q' q'' => by rw [f5.1 k j (by omega), ← e4, yI_ne (by omega), ← e3, yI_ne (by omega)]
    have d136 : s5.1 136 n = 1 := by rw [f5.1 136 n (by omega), ← e4, yI_at]
    have d137' : (s5.1 137 n).toInt = nb9 X p 116 := by rw [f5.1 137 n (by omega), ← e4, yI_ne (by omega), d137]; exact e1
    have d58 : s5.1 110 58 = τ.1 110 58 := by rw [f5.1 110 58 (by omega), ← e4, yI_ne (by omega), ← e3, yI_ne (by omega)]
    refine ⟨fun _ => ?_, fun z => absurd (by rw [d136]; exact z1) z⟩
    refine w_isSignM 11 tk5 (tk_255 (f5'.tx tx)) (fun c4 => ⟨fun z => absurd z (by decide), fun _ s9 e9 => ?_⟩) (fun c4 => ⟨fun _ => k1 s5 (nx9t X p) f5' tk5 nl.2 nl.1 d58 c5 (Or.inr ⟨c, thg, d137', Or.inr ⟨c4, by rw [d136]; exact z1, rfl⟩⟩), fun z => absurd rfl z⟩)
    have nl2 := nx_lt (X := X) (p := nx9t X p) (by omega)
    have f9 : FrR n τ s9 := f5'.tr (FrR.i (by omega) e9)
    have tk9 := tk5.r (X := X) (p := nx9t X p) (by decide) e9
    refine w_token (f9.tx tx) tk9.1.2.1 (te_L nl.2) (fun s10 f10 tk10 => ?_)
    have tk10 : TkM s10 X (nx9t X (nx9t X p)) := tk10
    refine k1 s10 (nx9t X (nx9t X p)) (f9.tr f10.r) tk10 nl2.2 (by omega) (by rw [f10.1 110 58 (by omega), ← e9, yI_ne (by omega)]; exact d58) (fun k j q q' q'' => by rw [f10.1 k j (by omega), ← e9, yI_ne (by omega)]; exact c5 k j q q' q'') (Or.inr ⟨c, thg, by rw [f10.1 137 n (by omega), ← e9, yI_ne (by omega)]; exact d137', Or.inl ⟨c4, by rw [f10.1 136 n (by omega), ← e9, yI_at]; exact z2, rfl⟩⟩)
end L33

end
end
section
section
/-! ===== the reference's rule ===== -/
theorem nv_lt {X : Txt} {p : Nat} (k2 : kd9 X p = 2) : nv9w X p < 1000000000 := by
  rw [nv_dg k2]
  have h0 : 0 ≤ by9 X p := by
    apply Classical.byContradiction
    intro q
    rw [kd_end (by omega)] at k2
    omega
  have hl : le9 X p = false := by
    cases e : le9 X p with
    | false => rfl
    | true => rw [kd_let h0 e] at k2; omega
  have hf : fi9 X p = true := by
    cases e : fi9 X p with
    | true => rfl
    | false =>
      rw [kd_sgn h0 hl e] at k2
      split at k2
      · omega
      · split at k2 <;> omega
  have k2' := k2
  rw [kd_fig h0 hl hf] at k2'
  have h9 : ¬ 9 < fe9 X p - p := fun q => by rw [if_pos q] at k2'; omega
  have al : ∀ i, p ≤ i → i < p + (fe9 X p - p) → fi9 X i = true := fun i u v => whF_all (f := fi9 X) (n := X.2 - p) (p := p) u (by show i < fe9 X p; omega)
  have bd := dgV_in (X := X) (p := p) (v := 0) (b := 0) (by decide) (by decide) _ al
  have mono : (10 : Int) ^ (0 + (fe9 X p - p)) ≤ 1000000000 := by
    have key : ∀ c, c < 10 → (10 : Int) ^ (0 + c) ≤ 1000000000 := by decide
    exact key _ (by omega)
  omega
noncomputable def FrU (f0 n : Nat) (σ τ : zS) : Prop := (∀ k j : Nat, ¬ (k = 110 ∧ (j = 46 ∨ j = 52 ∨ j = 56 ∨ j = 57 ∨ (27 ≤ j ∧ j ≤ 30) ∨ (58 ≤ j ∧ j ≤ 61))) → ¬ (132 ≤ k ∧ k ≤ 140 ∧ j = n) → ¬ (143 ≤ k ∧ k ≤ 150) → ¬ (k = 141 ∧ f0 ≤ j) → τ.1 k j = σ.1 k j) ∧ ∀ k j : Nat, ¬ (k = 142 ∧ f0 ≤ j) → ¬ (k = 110 ∧ j = 31) → τ.2 k j = σ.2 k j
noncomputable def RuH (τ : zS) (X : Txt) (w : Wld) (n p p6 : Nat) : Prop := ((37 ≤ rc9 X p ∧ rc9 X p ≤ 39) ∧ (τ.1 132 n).toInt = (rc9 X p : Int) - 37) ∧ WhR X w (nx9t X p) (τ.1 133 n).toInt (τ.1 134 n).toInt ∧ (act9 (rc9 X (nx9t X (nx9t X p))) = true ∧ (τ.1 135 n).toInt = acN (rc9 X (nx9t X (nx9t X p)))) ∧ ThM X w (nx9t X (nx9t X (nx9t X p))) (τ.1 136 n).toInt (τ.1 137 n).toInt p6
noncomputable def CoY (τ : zS) (X : Txt) (p6 q f0 f1 : Nat) : Prop := (rc9 X p6 = 33 ∧ To (KT9 X) (.inl (X0 (nx9t X p6))) (.inr (true, q)) ∧ ∃ (deep kd pa : Nat) (cd : Bool) (f : Int) (x : WtJ) (E : List ItJ), ToE (KT9 X) (EmX X) (X0E (nx9t X p6)) (false, (false, (q, (deep, (((kd, (cd, (pa, (f, x)))), []), E))))) ∧ f1 = f0 + (E ++ itm9 x).length ∧ EmL τ f0 (E ++ itm9 x) ∧ qrL (E ++ itm9 x) 0 = some 1) ∨ (rc9 X p6 ≠ 33 ∧ q = p6 ∧ f1 = f0)
noncomputable def RuM (τ : zS) (X : Txt) (w : Wld) (n p z f0 f1 : Nat) : Prop := ∃ p6 q, RuH τ X w n p p6 ∧ CoY τ X p6 q f0 f1 ∧ DuX X q (τ.1 138 n).toInt z ∧ (τ.1 139 n).toInt = (f0 : Int) ∧ (τ.1 140 n).toInt = (f1 : Int)
section L34
variable {σ τ : zS} {X : Txt} {p n f0 B : Nat} {w : Wld} {a : Int32} {Q : Int32 → zS → Prop}
theorem FrR.u {s t : zS} (h : FrR n s t) : FrU f0 n s t := ⟨fun k j q q2 _ _ => h.1 k j (by omega) q2, fun k j _ q => h.2 k j q⟩
theorem FrM.u {s t : zS} (h : FrM f0 s t) : FrU f0 n s t := ⟨fun k j q _ q3 q4 => h.1 k j q q3 q4, h.2⟩
theorem FrU.tr {a b c : zS} (h : FrU f0 n a b) (h' : FrU f0 n b c) : FrU f0 n a c := ⟨fun k j q q2 q3 q4 => (h'.1 k j q q2 q3 q4).trans (h.1 k j q q2 q3 q4), fun k j q q2 => (h'.2 k j q q2).trans (h.2 k j q q2)⟩
theorem RuH.cg {s t : zS} {p6 : Nat} (h : RuH s X w n p p6) (hc : ∀ k : Nat, 132 ≤ k → k ≤ 137 → t.1 k n = s.1 k n) : RuH t X w n p p6 := by
  unfold RuH at h ⊢
  rw [hc 132 (by omega) (by omega), hc 133 (by omega) (by omega), hc 134 (by omega) (by omega), hc 135 (by omega) (by omega), hc 136 (by omega) (by omega), hc 137 (by omega) (by omega)]
  exact h
theorem CoY.cg {s t : zS} {p6 q f1 : Nat} (h : CoY s X p6 q f0 f1) (hc : ∀ j : Nat, t.1 141 j = s.1 141 j ∧ t.2 142 j = s.2 142 j) : CoY t X p6 q f0 f1 := by
  rcases h with ⟨h1, h2, deep, kd, pa, cd, f, x, E, h3, h4, h5, h6⟩ | h
  · exact Or.inl ⟨h1, h2, deep, kd, pa, cd, f, x, E, h3, h4, h5.eq (fun j _ _ => hc j), h6⟩
  · exact Or.inr h
theorem w_ruleEndM {p6 q m f1 : Nat} {s : zS} (tx : TxM s X) (tk : TkM s X q) (hqX : q ≤ X.2) (hpq : p < q) (fr : FrU f0 n τ s) (ha : a.toInt = (n : Int)) (hn : n < 240) (e46 : (s.1 110 46).toInt = (f1 : Int)) (hf : f0 ≤ f1) (hf1 : f1 ≤ B + q) (e58 : (s.1 110 58).toInt < 0) (ru : RuH s X w n p p6) (co : CoY s X p6 q f0 f1) (e139 : (s.1 139 n).toInt = (f0 : Int)) (hm : m = 15 ∨ m = 18) (hS : ∀ r, RS9 (CM9 X) X w m q r → S10 (CM9 X) X w p r) (k1 : ∀ (τ' : zS) (z f1 : Nat), FrU f0 n τ τ' → TkM τ' X z → z ≤ X.2 → p < z → (τ'.1 110 58).toInt < 0 → (τ'.1 110 46).toInt = (f1 : Int) → f0 ≤ f1 → f1 ≤ B + z → RuM τ' X w n p z f0 f1 → S10 (CM9 X) X w p (Int.ofNat z) → Q 1 τ') (k0 : ∀ (τ' : zS) (f : Nat), FrU f0 n τ τ' → (τ'.1 110 58).toInt = (f : Int) → S10 (CM9 X) X w p (Int.negSucc f) → Q 0 τ') : W_M_isRule_b93 a s Q := by
  refine ⟨n, ha, hn, fun s2 e2 s3 e3 => ?_⟩
  have f3 : FrR n s s3 := (FrR.i (by omega) e2).tr (FrR.i (by omega) e3)
  have c3 : ∀ k j : Nat, k ≠ 138 → k ≠ 140 → s3.1 k j = s.1 k j := fun k j q q' => by rw [← e3, yI_ne (by omega), ← e2, yI_ne (by omega)]
  have l3 : s3.2 = s.2 := by rw [← e3, yI_l, ← e2, yI_l]
  have d138 : (s3.1 138 n).toInt = 0 := by rw [← e3, yI_at]; exact t32_0
  have d140 : (s3.1 140 n).toInt = (f1 : Int) := by rw [← e3, yI_ne (by omega), ← e2, yI_at]; exact e46
  have tk3 := (tk.r (X := X) (p := q) (by decide) e2).r (X := X) (p := q) (by decide) e3
  have tx3 := f3.tx tx
  have d46 : (s3.1 110 46).toInt = (f1 : Int) := by rw [c3 110 46 (by decide) (by decide)]; exact e46
  have d58 : (s3.1 110 58).toInt < 0 := by rw [c3 110 58 (by decide) (by decide)]; exact e58
  refine w_isWordM 32 tk3 (fun c => ⟨fun z => absurd z (by decide), fun _ => ?_⟩) (fun c => ⟨fun _ => k1 s3 q f1 (fr.tr f3.u) tk3 hqX hpq d58 d46 hf hf1 ⟨p6, q, ru.cg (fun k h1 h2 => c3 k n (by omega) (by omega)), co.cg (fun j => ⟨c3 141 j (by decide) (by decide), by rw [l3]⟩), Or.inr ⟨c, d138, rfl⟩, by rw [c3 139 n (by decide) (by decide)]; exact e139, d140⟩ (hS _ (q_5n hm c)), fun z => absurd rfl z⟩)
  have nl := nx_lt (X := X) (p := q) (by omega)
  refine w_token tx3 tk3.1.2.1 (te_L hqX) (fun s6 f6 tk6 => ?_)
  have tk6 : TkM s6 X (nx9t X q) := tk6
  have fr6 : FrU f0 n τ s6 := (fr.tr f3.u).tr (f6.r).u
  have e28 := tk6.1.2.2
  have bad : (kd9 X (nx9t X q) ≠ 2 ∨ nv9w X (nx9t X q) ≤ 0) → W_M_fails s6 (fun v s => (v = 0 ∨ v = 1) ∧ Q v s) := fun h => w_failsM (n := n) tk6.1.1 (fun s7 f7 h7 => ⟨Or.inl rfl, k0 s7 (nx9t X q) (fr6.tr f7.u) h7 (hS _ (q_5c hm c (q_9x h)))⟩)
  refine ⟨fun z => ⟨fun z2 => ?_, fun z2 => bad (Or.inr ?_)⟩, fun z => bad (Or.inl (by omega))⟩
  · have k2 : kd9 X (nx9t X q) = 2 := by omega
    have v2 := tk6.2.2.1 k2
    have vb := nv_lt k2
    refine ⟨by omega, fun r11 h11 s12 e12 => ?_⟩
    have f12 : FrR n s6 s12 := FrR.i (by omega) e12
    have tk12 := tk6.r (X := X) (p := nx9t X q) (by decide) e12
    have nl2 := nx_lt (X := X) (p := nx9t X q) (by have := rc_kd.2.2.1 k2; omega)
    refine w_token (f12.tx (f6.tx tx3)) tk12.1.2.1 (te_L nl.2) (fun s13 f13 tk13 => ?_)
    have tk13 : TkM s13 X (nx9t X (nx9t X q)) := tk13
    have c13 : ∀ k j : Nat, k ≠ 110 → k ≠ 138 → s13.1 k j = s3.1 k j := fun k j h h' => by rw [f13.1 k j (by omega), ← e12, yI_ne (by omega), f6.1 k j (by omega)]
    have g : ∀ j : Nat, j = 46 ∨ j = 58 → s13.1 110 j = s3.1 110 j := fun j h => by rw [f13.1 110 j (by omega), ← e12, yI_ne (by omega), f6.1 110 j (by omega)]
    have l13 : ∀ j : Nat, s13.2 142 j = s3.2 142 j := fun j => by rw [f13.2 142 j (by omega), ← e12, yI_l, f6.2 142 j (by omega)]
    have d138' : (s13.1 138 n).toInt = nv9w X (nx9t X q) := by rw [f13.1 138 n (by omega), ← e12, yI_at, h11]; exact v2
    refine k1 s13 (nx9t X (nx9t X q)) f1 (fr6.tr (f12.u.tr (f13.r).u)) tk13 nl2.2 (by omega) (by rw [g 58 (by omega)]; exact d58) (by rw [g 46 (by omega)]; exact d46) hf (by omega) ⟨p6, q, ru.cg (fun k h1 h2 => by rw [c13 k n (by omega) (by omega)]; exact c3 k n (by omega) (by omega)), co.cg (fun j => ⟨by rw [c13 141 j (by decide) (by decide)]; exact c3 141 j (by decide) (by decide), by rw [l13, l3]⟩), Or.inl ⟨c, k2, by omega, d138', rfl⟩, by rw [c13 139 n (by decide) (by decide), c3 139 n (by decide) (by decide)]; exact e139, by rw [c13 140 n (by decide) (by decide)]; exact d140⟩ (hS _ (q_5c hm c (q_9o k2 (by omega))))
  · have k2 : kd9 X (nx9t X q) = 2 := by omega
    have v2 := tk6.2.2.1 k2
    omega
theorem w_isRuleM (tx : TxM τ X) (tk : TkM τ X p) (hpX : p ≤ X.2) (hw : WlM τ w) (ha : a.toInt = (n : Int)) (hn : n < 240) (e46 : (τ.1 110 46).toInt = (f0 : Int)) (hf : f0 ≤ B + p) (hB : B ≤ f0) (hB2 : B ≤ 9100) (e58 : (τ.1 110 58).toInt < 0) (k1 : ∀ (τ' : zS) (z f1 : Nat), FrU f0 n τ τ' → TkM τ' X z → z ≤ X.2 → p < z → (τ'.1 110 58).toInt < 0 → (τ'.1 110 46).toInt = (f1 : Int) → f0 ≤ f1 → f1 ≤ B + z → RuM τ' X w n p z f0 f1 → S10 (CM9 X) X w p (Int.ofNat z) → Q 1 τ') (k0 : ∀ (τ' : zS) (f : Nat), FrU f0 n τ τ' → (τ'.1 110 58).toInt = (f : Int) → S10 (CM9 X) X w p (Int.negSucc f) → Q 0 τ') : W_M_isRule a τ Q := by
  refine w_isEffectM tk ha hn (fun s1 f1 tk1 h1 c1 e1 => ⟨fun z => absurd z (by decide), fun _ => ?_⟩) (fun s1 f1 c1 h1 => ⟨fun _ => k0 s1 p f1.u h1 (bt_no c1 rfl), fun z => absurd rfl z⟩)
  have i1 := in9_iff.mp c1
  have nl1 := nx_lt (X := X) (p := p) (by omega)
  refine w_token (f1.tx tx) tk1.1.2.1 (te_L hpX) (fun s3 f3 tk3 => ?_)
  have tk3 : TkM s3 X (nx9t X p) := tk3
  have F3 : FrR n τ s3 := f1.tr f3.r
  refine w_isWhoM (F3.tx tx) tk3 nl1.2 (F3.wl hw) ha hn (fun s4 f4 tk4 h4 c4 o1 o2 => ⟨fun z => absurd z (by decide), fun _ => ?_⟩) (fun s4 f4 o h => ⟨fun _ => k0 s4 (nx9t X p) (F3.tr f4).u h (bt_up c1 (bt_no o rfl)), fun z => absurd rfl z⟩)
  have F4 : FrR n τ s4 := F3.tr f4
  have nl2 : nx9t X p < nx9t X (nx9t X p) ∧ nx9t X (nx9t X p) ≤ X.2 := nx_lt (by
    rcases o2 with o | o | ⟨_, _, o | o⟩
    · omega
    · omega
    · exact kd_2 (nb_kd o.1)
    · exact kd_2 (nb_kd o.2.1))
  refine w_token (F4.tx tx) tk4.1.2.1 (te_L nl1.2) (fun s6 f6 tk6 => ?_)
  have tk6 : TkM s6 X (nx9t X (nx9t X p)) := tk6
  have F6 : FrR n τ s6 := F4.tr f6.r
  refine w_isActM tk6 ha hn (fun s7 f7 tk7 c7 t1 t2 => ⟨fun z => absurd z (by decide), fun _ => ?_⟩) (fun s7 f7 t h => ⟨fun _ => k0 s7 _ (F6.tr f7).u h (bt_up c1 (bt_up o1 (bt_no t rfl))), fun z => absurd rfl z⟩)
  have F7 : FrR n τ s7 := F6.tr f7
  have nl3 : nx9t X (nx9t X p) < nx9t X (nx9t X (nx9t X p)) ∧ nx9t X (nx9t X (nx9t X p)) ≤ X.2 := nx_lt (by
    have ai := (act_iff _ (Nat.lt_succ_of_le (rc_le (X := X) (p := nx9t X (nx9t X p))))).mp t1
    omega)
  refine w_token (F7.tx tx) tk7.1.2.1 (te_L nl2.2) (fun s9 f9 tk9 => ?_)
  have tk9 : TkM s9 X (nx9t X (nx9t X (nx9t X p))) := tk9
  have F9 : FrR n τ s9 := F7.tr f9.r
  refine w_isRuleThingM (F9.tx tx) tk9 nl3.2 (F9.wl hw) ha hn (fun s10 p6 f10 tk10 hp6 lp6 h10 c10 th => ⟨fun z => absurd z (by decide), fun _ => ?_⟩) (fun s10 f10 g1 g2 h => ⟨fun _ => k0 s10 _ (F9.tr f10).u h (bt_up c1 (bt_up o1 (bt_up t1 ⟨fun z => absurd z g1, fun _ => bt_no g2 rfl⟩))), fun z => absurd rfl z⟩)
  have F10 : FrR n τ s10 := F9.tr f10
  have x58 : (s10.1 110 58).toInt < 0 := by rw [h10, f9.1 110 58 (by omega), c7 110 58 (by decide), f6.1 110 58 (by omega), h4, f3.1 110 58 (by omega), h1]; exact e58
  have x46 : (s10.1 110 46).toInt = (f0 : Int) := by rw [F10.1 110 46 (by omega) (by omega)]; exact e46
  have hS : ∀ r, RS9 (CM9 X) X w 14 p6 r → S10 (CM9 X) X w p r := fun r h => by
    refine bt_up c1 (bt_up o1 (bt_up t1 ?_))
    rcases th with ⟨a1, _, a3⟩ | ⟨a1, a2, _, ⟨b1, _, b3⟩ | ⟨b1, _, b3⟩⟩
    · rw [a3] at h
      exact q_3a a1 h
    · rw [b3] at h
      exact ⟨fun z => absurd z a1, fun _ => bt_up a2 (q_6c b1 h)⟩
    · rw [b3] at h
      exact ⟨fun z => absurd z a1, fun _ => bt_up a2 (q_6n b1 h)⟩
  have ru : RuH s10 X w n p p6 := by
    have y4 : ∀ k : Nat, 132 ≤ k → k ≤ 134 → s10.1 k n = s4.1 k n := fun k q q' => by rw [c10 k n (by omega) (by omega) (by omega), f9.1 k n (by omega), c7 k n (by omega), f6.1 k n (by omega)]
    have y1 : s10.1 132 n = s1.1 132 n := by rw [y4 132 (by omega) (by omega), c4 132 n (by omega) (by omega), f3.1 132 n (by omega)]
    have y7 : s10.1 135 n = s7.1 135 n := by rw [c10 135 n (by omega) (by omega) (by omega), f9.1 135 n (by omega)]
    unfold RuH
    rw [y1, y4 133 (by omega) (by omega), y4 134 (by omega) (by omega), y7]
    exact ⟨⟨i1, e1⟩, o2, ⟨t1, t2⟩, th⟩
  refine ⟨n, ha, hn, fun s13 e13 => ?_⟩
  have f13 : FrR n s10 s13 := FrR.i (by omega) e13
  have F13 : FrR n τ s13 := F10.tr f13
  have tk13 := tk10.r (X := X) (p := p6) (by decide) e13
  have c13 : ∀ k j : Nat, k ≠ 139 → s13.1 k j = s10.1 k j := fun k j q => by rw [← e13, yI_ne (by omega)]
  have d139 : (s13.1 139 n).toInt = (f0 : Int) := by rw [← e13, yI_at]; exact x46
  have d46 : (s13.1 110 46).toInt = (f0 : Int) := by rw [c13 110 46 (by decide)]; exact x46
  have d58 : (s13.1 110 58).toInt < 0 := by rw [c13 110 58 (by decide)]; exact x58
  have ru13 : RuH s13 X w n p p6 := ru.cg (fun k h1 h2 => c13 k n (by omega))
  refine w_isWordM 33 tk13 (fun c => ⟨fun z => absurd z (by decide), fun _ => ?_⟩) (fun c => ⟨fun _ => w_ruleEndM (m := 15) (f1 := f0) (F13.tx tx) tk13 hp6 (by omega) F13.u ha hn d46 (Nat.le_refl _) (by omega) d58 ru13 (Or.inr ⟨c, rfl, rfl⟩) d139 (Or.inl rfl) (fun r h => hS r (q_4n c h)) k1 k0, fun z => absurd rfl z⟩)
  have nl6 := nx_lt (X := X) (p := p6) (by omega)
  refine w_token (F13.tx tx) tk13.1.2.1 (te_L hp6) (fun s16 f16 tk16 => ?_)
  have tk16 : TkM s16 X (nx9t X p6) := tk16
  have F16 : FrR n τ s16 := F13.tr f16.r
  refine w_conditionM (B := B) (f0 := f0) (F16.tx tx) tk16 nl6.2 (by rw [f16.1 110 46 (by omega)]; exact d46) (by omega) hB hB2 (by rw [f16.1 110 58 (by omega)]; exact d58) (fun s17 co => ?_)
  rcases co with ⟨f, g1, g2, g3⟩ | ⟨q, deep, kd, pa, cd, f, x, E, g1, g2, g3, g4, g5, g6, g7⟩
  · exact ⟨fun z => absurd z (by omega), fun _ => k0 s17 f (F16.u.tr g2.u) g3 (hS _ (q_4c c (q_7x ⟨(false, f), g1, rfl⟩)))⟩
  · refine ⟨fun _ => ?_, fun z => absurd g6 z⟩
    have F17 : FrU f0 n τ s17 := F16.u.tr g3.u
    have c17 : ∀ k : Nat, 132 ≤ k → k ≤ 140 → s17.1 k n = s13.1 k n := fun k h1 h2 => by rw [g3.1 k n (by omega) (by omega) (by omega), f16.1 k n (by omega)]
    obtain ⟨W, _, ⟨b1, b2, b3⟩, b4, b5⟩ := g7
    refine w_ruleEndM (m := 18) (f1 := f0 + (E ++ itm9 x).length) (g3.tx (F16.tx tx)) g4 g5.2 (by omega) F17 ha hn b1 (by omega) (by omega) g6 (ru13.cg (fun k h1 h2 => c17 k h1 (by omega))) (Or.inl ⟨c, g1, deep, kd, pa, cd, f, x, E, g2, rfl, b2, b3⟩) (by rw [c17 139 (by omega) (by omega)]; exact d139) (Or.inr rfl) (fun r h => hS r (q_4c c (q_7o ⟨(true, q), g1, rfl⟩ h))) k1 k0
end L34
/-! ===== the reference reads a policy ===== -/
noncomputable def RuAM (τ : zS) (X : Txt) (w : Wld) (pol k Bd : Nat) : Prop := ∀ i, i < k → ∃ p z f0 f1, PlQ9 X w i p ∧ S10 (CH9 X) X w p (Int.ofNat z) ∧ RuM τ X w (30 * pol + i) p z f0 f1 ∧ 1300 * pol ≤ f0 ∧ f0 ≤ f1 ∧ f1 ≤ Bd
noncomputable def FrO (pol : Nat) (σ τ : zS) : Prop := (∀ k j : Nat, ¬ (k = 110 ∧ (j = 1 ∨ j = 32 ∨ j = 46 ∨ j = 52 ∨ j = 56 ∨ j = 57 ∨ (27 ≤ j ∧ j ≤ 30) ∨ (58 ≤ j ∧ j ≤ 61))) → ¬ (132 ≤ k ∧ k ≤ 140 ∧ 30 * pol ≤ j) → ¬ (130 ≤ k ∧ k ≤ 131 ∧ j = pol) → ¬ (143 ≤ k ∧ k ≤ 150) → ¬ (k = 141 ∧ 1300 * pol ≤ j) → τ.1 k j = σ.1 k j) ∧ ∀ k j : Nat, ¬ (k = 142 ∧ 1300 * pol ≤ j) → ¬ (k = 110 ∧ j = 31) → τ.2 k j = σ.2 k j
section L35
variable {σ τ : zS} {X : Txt} {w : Wld} {pol p n f0 : Nat} {r0 : Int} {Q : Int32 → zS → Prop}
theorem FrO.tr {a b c : zS} (h : FrO pol a b) (h' : FrO pol b c) : FrO pol a c := ⟨fun k j q q2 q3 q4 q5 => (h'.1 k j q q2 q3 q4 q5).trans (h.1 k j q q2 q3 q4 q5), fun k j q q2 => (h'.2 k j q q2).trans (h.2 k j q q2)⟩
theorem FrU.o {a b : zS} (h : FrU f0 n a b) (hn : 30 * pol ≤ n) (hf : 1300 * pol ≤ f0) : FrO pol a b := ⟨fun k j q q2 _ q4 q5 => h.1 k j (by omega) (by omega) q4 (by omega), fun k j q q2 => h.2 k j (by omega) q2⟩
theorem FrKt.o {a b : zS} (h : FrKt a b) : FrO pol a b := ⟨fun k j q _ _ _ _ => h.1 k j (by omega), fun k j _ q => h.2 k j q⟩
theorem FrO.i {a b : zS} {k j : Nat} {x : Int32} (hk : (k = 110 ∧ (j = 1 ∨ j = 32 ∨ j = 46 ∨ (27 ≤ j ∧ j ≤ 30) ∨ (58 ≤ j ∧ j ≤ 61))) ∨ (130 ≤ k ∧ k ≤ 131 ∧ j = pol)) (e : zI a k j x = b) : FrO pol a b := ⟨fun k' j' q q2 q3 _ _ => by rw [← e, yI_ne (by omega)], fun k' j' _ _ => by rw [← e, yI_l]⟩
theorem s10_ch {z : Nat} (hp : p ≤ X.2) (hx : S10 (CM9 X) X w p (Int.ofNat z)) : S10 (CH9 X) X w p (Int.ofNat z) := by
  obtain ⟨x, hx'⟩ := S10_ex (X := X) (w := w) CH_ex hp
  rcases S10.sm C_same hx' hx with e | ⟨y, _, e, _⟩
  · rw [e]; exact hx'
  · cases e
theorem CoY.cg2 {s t : zS} {p6 q f1 : Nat} (h : CoY s X p6 q f0 f1) (hc : ∀ j : Nat, f0 ≤ j → j < f1 → t.1 141 j = s.1 141 j ∧ t.2 142 j = s.2 142 j) : CoY t X p6 q f0 f1 := by
  rcases h with ⟨h1, h2, deep, kd, pa, cd, f, x, E, h3, h4, h5, h6⟩ | h
  · exact Or.inl ⟨h1, h2, deep, kd, pa, cd, f, x, E, h3, h4, h5.eq (fun j a b => hc j a (by omega)), h6⟩
  · exact Or.inr h
theorem RuM.cg {s t : zS} {z f1 : Nat} (h : RuM s X w n p z f0 f1) (hc : ∀ k : Nat, 132 ≤ k → k ≤ 140 → t.1 k n = s.1 k n) (hR : ∀ j : Nat, f0 ≤ j → j < f1 → t.1 141 j = s.1 141 j ∧ t.2 142 j = s.2 142 j) : RuM t X w n p z f0 f1 := by
  obtain ⟨p6, q, h1, h2, h3, h4, h5⟩ := h
  exact ⟨p6, q, h1.cg (fun k a b => hc k a (by omega)), h2.cg2 hR, by rw [hc 138 (by omega) (by omega)]; exact h3, by rw [hc 139 (by omega) (by omega)]; exact h4, by rw [hc 140 (by omega) (by omega)]; exact h5⟩
theorem RuAM.cg {s t : zS} {k Bd : Nat} (h : RuAM s X w pol k Bd) (hc : ∀ k' j : Nat, 132 ≤ k' → k' ≤ 140 → j < 30 * pol + k → t.1 k' j = s.1 k' j) (hR : ∀ j : Nat, j < Bd → t.1 141 j = s.1 141 j ∧ t.2 142 j = s.2 142 j) : RuAM t X w pol k Bd := fun i hi => by
  obtain ⟨p, z, f0, f1, h1, h2, h3, h4, h5, h6⟩ := h i hi
  exact ⟨p, z, f0, f1, h1, h2, h3.cg (fun k' a b => hc k' _ a b (by omega)) (fun j a b => hR j (by omega)), h4, h5, h6⟩
theorem FrU.wl {s t : zS} (h : FrU f0 n s t) (hw : WlM s w) : WlM t w := by
  unfold WlM at hw ⊢
  rw [h.1 110 6 (by omega) (by omega) (by omega) (by omega), h.1 110 7 (by omega) (by omega) (by omega) (by omega), h.1 110 20 (by omega) (by omega) (by omega) (by omega)]
  refine ⟨hw.1, hw.2.1, hw.2.2.1, fun t' => ?_⟩
  rw [h.1 128 t' (by omega) (by omega) (by omega) (by omega)]
  exact hw.2.2.2 t'
theorem FrU.tx {s t : zS} (h : FrU f0 n s t) (hx : TxM s X) : TxM t X := ⟨⟨by rw [h.1 110 1 (by omega) (by omega) (by omega) (by omega)]; exact hx.1.1, hx.1.2⟩, fun p hp => by rw [h.1 111 p (by omega) (by omega) (by omega) (by omega)]; exact hx.2 p hp⟩
theorem wl_policyM {x1 : Int32} (hp : pol < 8) (hpol : (σ.1 110 32).toInt = (pol : Int)) (k1 : ∀ (υ : zS) (v : Int32) (c : Nat), FrO pol σ υ → (υ.1 110 1).toInt = 0 → (υ.1 110 32).toInt = (pol : Int) + 1 → υ.1 130 pol = x1 → (υ.1 131 pol).toInt = (c : Int) → RuAM υ X w pol c (1300 * (pol + 1)) → 1 ≤ c → c ≤ 30 → r0 = Int.ofNat c → v.toInt = (pol : Int) → Q v υ) (k0 : ∀ (υ : zS) (v : Int32) (f : Nat), FrO pol σ υ → (υ.1 110 1).toInt = 0 → υ.1 110 32 = σ.1 110 32 → r0 = Int.negSucc f → v.toInt = -10 - (f : Int) → Q v υ) : ∀ (N : Nat) (x2 x3 : Int32) (τ : zS) (p f0 k : Nat), x2.toInt = (k : Int) → k ≤ 30 → x3.toInt = 1 → TxM τ X → TkM τ X p → p ≤ X.2 → WlM τ w → FrO pol σ τ → τ.1 110 32 = σ.1 110 32 → (τ.1 110 58).toInt < 0 → (τ.1 110 46).toInt = (f0 : Int) → 1300 * pol ≤ f0 → f0 ≤ 1300 * pol + p → RuAM τ X w pol k f0 → PlQ9 X w k p → PoR X w (30 - k) k p r0 → 30 - k + 3 ≤ N → WL_M_policy N x1 x2 x3 τ Q
  | 0, _, _, _, _, _, _, _, _, _, _, _, _, _, _, _, _, _, _, _, _, _, _, hN => absurd hN (by omega)
  | N + 1, x2, x3, τ, p, f0, k, h2, hk, h3, tx, tk, hpX, hw, fr, e32, e58, e46, hf0, hf1, ru, pl, po, hN => by
    have hX := tx.1.2
    have bad : ∀ (M : Nat) (y2 y3 : Int32) (s : zS) (f : Nat), FrO pol σ s → s.1 110 32 = σ.1 110 32 → (s.1 110 58).toInt = (f : Int) → f ≤ 1200 → r0 = Int.negSucc f → WL_M_policy (M + 1) x1 y2 y3 s Q := fun M y2 y3 s f fs s32 s58 hf hr => by
      have b155 : W_M_policy_b155 (WL_M_policy M) x1 y2 s Q := fun s1 e1 => by
        have d58 : (s1.1 110 58).toInt = (f : Int) := by rw [← e1, yI_ne (by omega)]; exact s58
        exact ⟨fun z => absurd z (by omega), fun _ => ⟨by omega, fun r10 h10 => k0 s1 r10 f (fs.tr (FrO.i (by omega) e1)) (by rw [← e1, yI_at]; exact t32_0) (by rw [← e1, yI_ne (by omega)]; exact s32) hr (by omega)⟩⟩
      exact wl_M_policy_60 ⟨fun _ => b155, fun _ => ⟨fun _ => b155, fun z => absurd (by omega) z⟩⟩
    obtain ⟨N', hN'⟩ : ∃ N', N = N' + 1 := ⟨N - 1, by omega⟩
    have hpo : (τ.1 110 32).toInt = (pol : Int) := by rw [e32]; exact hpol
    refine wl_M_policy_60 ⟨fun z => absurd z (by omega), fun _ => ⟨fun z => absurd z (by omega), fun _ => ⟨fun z => fun s10 e10 => ?_, fun z => ⟨by omega, fun r4 h4 => ⟨by omega, fun r5 h5 => ?_⟩⟩⟩⟩⟩
    · have k30 : k = 30 := by omega
      rw [k30] at po
      have po : r0 = Int.negSucc p := po
      rw [hN']
      exact bad N' x2 x3 s10 p (fr.tr (FrO.i (by omega) e10)) (by rw [← e10, yI_ne (by omega)]; exact e32) (by rw [← e10, yI_at]; exact tk.1.1) (by omega) po
    obtain ⟨m, hm⟩ : ∃ m, 30 - k = m + 1 := ⟨30 - k - 1, by omega⟩
    rw [hm] at po
    refine w_isRuleM (B := 1300 * pol) (n := 30 * pol + k) (f0 := f0) tx tk hpX hw (by omega) (by omega) e46 hf1 hf0 (by omega) e58 (fun s6 z f1 g1 g2 g3 g4 g5 g6 g7 g8 g9 g10 => ⟨fun q => absurd q (by decide), fun _ => ⟨by omega, fun r8 h8 => ?_⟩⟩) (fun s6 f g1 g2 g3 => ⟨fun _ => ?_, fun q => absurd rfl q⟩)
    · have pb := PoR_okM hpX po g10
      have sch := s10_ch hpX g10
      have fr6 : FrO pol σ s6 := fr.tr (g1.o (by omega) hf0)
      have s32 : s6.1 110 32 = σ.1 110 32 := by rw [g1.1 110 32 (by omega) (by omega) (by omega) (by omega)]; exact e32
      have ru6 : RuAM s6 X w pol (k + 1) f1 := fun i hi => by
        by_cases q : i = k
        · subst q
          exact ⟨p, z, f0, f1, pl, sch, g9, hf0, g7, Nat.le_refl _⟩
        · have a := ru.cg (t := s6) (fun k' j a b c => g1.1 k' j (by omega) (by omega) (by omega) (by omega)) (fun j hj => ⟨g1.1 141 j (by omega) (by omega) (by omega) (by omega), g1.2 142 j (by omega) (by omega)⟩) i (by omega)
          obtain ⟨p', z', a0, a1, a2, a3, a4, a5, a6, a7⟩ := a
          exact ⟨p', z', a0, a1, a2, a3, a4, a5, a6, by omega⟩
      have rk := rc_kd (X := X) (p := z)
      have kl : kd9 X z ≤ 5 := kd9_le
      have e28 := g2.1.2.2
      refine ⟨fun q => ?_, fun q => ?_⟩
      · have rz : rc9 X z = 1 := rk.1 (by omega)
        have hr := pb.1 rz
        refine ⟨fun _ => ⟨fun _ => ?_, fun y => absurd rfl y⟩, fun y => absurd rfl y⟩
        rw [hN']
        have b155 : W_M_policy_b155 (WL_M_policy N') x1 r8 s6 Q := fun s1 e1 => by
          have d58 : (s1.1 110 58).toInt < 0 := by rw [← e1, yI_ne (by omega)]; exact g5
          have d32 : (s1.1 110 32).toInt = (pol : Int) := by rw [← e1, yI_ne (by omega), s32]; exact hpol
          refine ⟨fun _ => ⟨pol, d32, hp, fun s4 e4 => ⟨pol, by rw [← e4, yI_ne (by omega)]; exact d32, hp, fun s6' e6 => ?_⟩⟩, fun y => absurd d58 y⟩
          have d32' : (s6'.1 110 32).toInt = (pol : Int) := by rw [← e6, yI_ne (by omega), ← e4, yI_ne (by omega)]; exact d32
          refine ⟨by omega, fun r7 h7 s8 e8 => ?_⟩
          have d32'' : (s8.1 110 32).toInt = (pol : Int) + 1 := by rw [← e8, yI_at]; omega
          have c8 : ∀ k' j : Nat, ¬ (k' = 110 ∧ (j = 1 ∨ j = 32)) → ¬ (130 ≤ k' ∧ k' ≤ 131 ∧ j = pol) → s8.1 k' j = s6.1 k' j := fun k' j a b => by rw [← e8, yI_ne (by omega), ← e6, yI_ne (by omega), ← e4, yI_ne (by omega), ← e1, yI_ne (by omega)]
          have l8 : s8.2 = s6.2 := by rw [← e8, yI_l, ← e6, yI_l, ← e4, yI_l, ← e1, yI_l]
          refine ⟨by omega, fun r9 h9 => k1 s8 r9 (k + 1) (fr6.tr ⟨fun k' j a _ c _ _ => c8 k' j (by omega) c, fun k' j _ _ => by rw [l8]⟩) ?_ d32'' ?_ ?_ ?_ (by omega) (by omega) hr (by omega)⟩
          · rw [← e8, yI_ne (by omega), ← e6, yI_ne (by omega), ← e4, yI_ne (by omega), ← e1, yI_at]; exact t32_0
          · rw [← e8, yI_ne (by omega), ← e6, yI_ne (by omega), ← e4, yI_at]
          · rw [← e8, yI_ne (by omega), ← e6, yI_at]; omega
          · have a := ru6.cg (t := s8) (fun k' j a b _ => c8 k' j (by omega) (by omega)) (fun j _ => ⟨c8 141 j (by omega) (by omega), by rw [l8]⟩)
            intro i hi
            obtain ⟨p', z', a0, a1, a2, a3, a4, a5, a6, a7⟩ := a i hi
            exact ⟨p', z', a0, a1, a2, a3, a4, a5, a6, by omega⟩
        exact wl_M_policy_60 ⟨fun _ => b155, fun y => absurd rfl y⟩
      · have rz1 : rc9 X z ≠ 1 := fun y => by omega
        refine ⟨fun y => absurd y (by decide), fun _ => ?_⟩
        refine w_isSignM 19 g2 (tk_255 (g1.tx tx)) (fun c => ⟨fun y => absurd y (by decide), fun _ => ⟨fun y => absurd y (by decide), fun _ => ?_⟩⟩) (fun c => ⟨fun _ s4 e4 => ?_, fun y => absurd rfl y⟩)
        · have nl := nx_lt (X := X) (p := z) (by omega)
          have tx6 := g1.tx tx
          refine w_token tx6 g2.1.2.1 (te_L g3) (fun s2 f2 tk2 => ?_)
          have tk2 : TkM s2 X (nx9t X z) := tk2
          refine wl_policyM hp hpol k1 k0 N r8 1 s2 (nx9t X z) f1 (k + 1) (by omega) (by omega) (by decide) (f2.tx tx6) tk2 nl.2 ((f2.r (n := 0)).wl (g1.wl hw)) (fr6.tr f2.o) (by rw [f2.1 110 32 (by omega)]; exact s32) (by rw [f2.1 110 58 (by omega)]; exact g5) (by rw [f2.1 110 46 (by omega)]; exact g6) (by omega) (by omega) (ru6.cg (fun k' j a b _ => f2.1 k' j (by omega)) (fun j _ => ⟨f2.1 141 j (by omega), f2.2 142 j (by omega)⟩)) ⟨p, z, pl, sch, c, rfl⟩ ?_ (by omega)
          rw [show 30 - (k + 1) = m by omega]
          exact pb.2.1 c
        · rw [hN']
          exact bad N' r8 1 s4 z (fr6.tr (FrO.i (by omega) e4)) (by rw [← e4, yI_ne (by omega)]; exact s32) (by rw [← e4, yI_at]; exact g2.1.1) (by omega) (pb.2.2 ⟨rz1, c⟩)
    · have hr := PoR_badM hpX po g3
      have hc : f ≤ X.2 := (PoR_ex (X := X) (w := w) (n := m + 1) (k := k) hpX).elim (fun r q => q.2.2 f (PoR.det q.1 (by rw [← hr]; exact po)))
      rw [hN']
      exact bad N' x2 x3 s6 f (fr.tr (g1.o (by omega) hf0)) (by rw [g1.1 110 32 (by omega) (by omega) (by omega) (by omega)]; exact e32) g2 (by omega) hr
end L35
section L36
variable {σ : zS} {X : Txt} {w : Wld} {pol : Nat} {r0 : Int} {Q : Int32 → zS → Prop}
/-- the reference has begun: reading a policy -/
theorem w_policyM {x1 : Int32} (hbg : ¬ (σ.1 110 26).toInt = 0) (tx : TxM σ X) (hw : WlM σ w) (hp : pol ≤ 8) (hpol : (σ.1 110 32).toInt = (pol : Int)) (hr : PoR X w 30 0 (Tp9 X 0) r0) (kw : ¬ (0 ≤ x1.toInt ∧ x1.toInt ≤ 3) → Q (-1) σ) (k8 : (0 ≤ x1.toInt ∧ x1.toInt ≤ 3) → pol = 8 → Q (-3) σ) (k1 : ∀ (υ : zS) (v : Int32) (c : Nat), pol < 8 → (0 ≤ x1.toInt ∧ x1.toInt ≤ 3) → FrO pol σ υ → (υ.1 110 1).toInt = 0 → (υ.1 110 32).toInt = (pol : Int) + 1 → υ.1 130 pol = x1 → (υ.1 131 pol).toInt = (c : Int) → RuAM υ X w pol c (1300 * (pol + 1)) → 1 ≤ c → c ≤ 30 → r0 = Int.ofNat c → v.toInt = (pol : Int) → Q v υ) (k0 : ∀ (υ : zS) (v : Int32) (f : Nat), pol < 8 → (0 ≤ x1.toInt ∧ x1.toInt ≤ 3) → FrO pol σ υ → (υ.1 110 1).toInt = 0 → υ.1 110 32 = σ.1 110 32 → r0 = Int.negSucc f → v.toInt = -10 - (f : Int) → Q v υ) : W_M_policy x1 σ Q := by
  have z0 : (0 : Int64).toInt = 0 := by decide
  have z3 : (3 : Int64).toInt = 3 := by decide
  refine ⟨fun z => absurd z hbg, fun _ r2 h2 => ?_⟩
  have no : ¬ (0 ≤ x1.toInt ∧ x1.toInt ≤ 3) → ((0 : Int32).toInt = 0 → Q (-1) σ) ∧ (¬ (0 : Int32).toInt = 0 → ((σ.1 110 32).toInt = 8 → Q (-3) σ) ∧ (¬ (σ.1 110 32).toInt = 8 → ∀ σ6 : zS, zI σ 110 27 0 = σ6 → ∀ σ7 : zS, zI σ6 110 58 (-1) = σ7 → (-2147483648 ≤ 1300 * (σ7.1 110 32).toInt ∧ 1300 * (σ7.1 110 32).toInt ≤ 2147483647) ∧ ∀ r8 : Int32, r8.toInt = 1300 * (σ7.1 110 32).toInt → ∀ σ9 : zS, zI σ7 110 46 r8 = σ9 → W_M_token σ9 (fun _ σ10 => (WL_M_policy fuF) x1 0 1 σ10 Q))) := fun q => ⟨fun _ => kw q, fun z => absurd rfl z⟩
  refine ⟨fun c => no (by omega), fun c => ⟨fun d => no (by omega), fun d => ⟨fun z => absurd z (by decide), fun _ => ?_⟩⟩⟩
  have hx : 0 ≤ x1.toInt ∧ x1.toInt ≤ 3 := by omega
  refine ⟨fun z => k8 hx (by omega), fun z s6 e6 s7 e7 => ?_⟩
  have hp8 : pol < 8 := by omega
  have d32 : ∀ s : zS, s.1 110 32 = σ.1 110 32 → (s.1 110 32).toInt = (pol : Int) := fun s h => by rw [h]; exact hpol
  have c7 : s7.1 110 32 = σ.1 110 32 := by rw [← e7, yI_ne (by omega), ← e6, yI_ne (by omega)]
  have p7 := d32 s7 c7
  refine ⟨by omega, fun r8 h8 s9 e9 => ?_⟩
  have c9 : ∀ k j : Nat, ¬ (k = 110 ∧ (j = 27 ∨ j = 46 ∨ j = 58)) → s9.1 k j = σ.1 k j := fun k j q => by rw [← e9, yI_ne (by omega), ← e7, yI_ne (by omega), ← e6, yI_ne (by omega)]
  have l9 : s9.2 = σ.2 := by rw [← e9, yI_l, ← e7, yI_l, ← e6, yI_l]
  have fr9 : FrO pol σ s9 := ⟨fun k j q _ _ _ _ => c9 k j (by omega), fun k j _ _ => by rw [l9]⟩
  have tx9 : TxM s9 X := ⟨⟨by rw [c9 110 1 (by omega)]; exact tx.1.1, tx.1.2⟩, fun p hp => by rw [c9 111 p (by omega)]; exact tx.2 p hp⟩
  have hw9 : WlM s9 w := by
    unfold WlM at hw ⊢
    rw [c9 110 6 (by omega), c9 110 7 (by omega), c9 110 20 (by omega)]
    refine ⟨hw.1, hw.2.1, hw.2.2.1, fun t' => ?_⟩
    rw [c9 128 t' (by omega)]
    exact hw.2.2.2 t'
  have d58 : (s9.1 110 58).toInt < 0 := by rw [← e9, yI_ne (by omega), ← e7, yI_at]; decide
  have d46 : (s9.1 110 46).toInt = ((1300 * pol : Nat) : Int) := by rw [← e9, yI_at]; omega
  have d27 : (s9.1 110 27).toInt = ((0 : Nat) : Int) := by rw [← e9, yI_ne (by omega), ← e7, yI_ne (by omega), ← e6, yI_at]; decide
  refine w_token tx9 d27 (Nat.zero_le _) (fun s10 f10 tk10 => ?_)
  have tk10 : TkM s10 X (Tp9 X 0) := tk10
  have hpX : Tp9 X 0 ≤ X.2 := wh_le.2 (Nat.zero_le _)
  exact wl_policyM hp8 hpol (fun υ v c => k1 υ v c hp8 hx) (fun υ v f => k0 υ v f hp8 hx) fuF 0 1 s10 (Tp9 X 0) (1300 * pol) 0 (by decide) (by omega) (by decide) (f10.tx tx9) tk10 hpX ((f10.r (n := 0)).wl hw9) (fr9.tr f10.o) (by rw [f10.1 110 32 (by omega), c9 110 32 (by omega)]) (by rw [f10.1 110 58 (by omega)]; exact d58) (by rw [f10.1 110 46 (by omega)]; exact d46) (Nat.le_refl _) (by omega) (fun i hi => absurd hi (Nat.not_lt_zero _)) rfl hr (by show 30 - 0 + 3 ≤ 100000; omega)
end L36
/-! ===== one text: both read the same ===== -/
section L37
variable {X : Txt} {w : Wld} {p : Nat}
theorem WhR.det {k v k' v' : Int} (h : WhR X w p k v) (h' : WhR X w p k' v') : k = k' ∧ (k = 1 ∨ k = 3 → v = v') := by
  rcases h with ⟨a, b⟩ | ⟨a, b⟩ | ⟨a1, a2, ⟨b1, b2, b3, b4⟩ | ⟨b1, b2, b3, b4, b5⟩⟩
  · rcases h' with ⟨c, d⟩ | ⟨c, d⟩ | ⟨c1, c2, _⟩
    · exact ⟨by omega, fun z => by omega⟩
    · omega
    · exact absurd a c1
  · rcases h' with ⟨c, d⟩ | ⟨c, d⟩ | ⟨c1, c2, _⟩
    · omega
    · exact ⟨by omega, fun z => by omega⟩
    · exact absurd a c2
  · rcases h' with ⟨c, d⟩ | ⟨c, d⟩ | ⟨c1, c2, ⟨d1, d2, d3, d4⟩ | ⟨d1, d2, d3, d4, d5⟩⟩
    · exact absurd c a1
    · exact absurd c a2
    · exact ⟨by omega, fun _ => by omega⟩
    · exact absurd ⟨b1, b2⟩ d1
  · rcases h' with ⟨c, d⟩ | ⟨c, d⟩ | ⟨c1, c2, ⟨d1, d2, d3, d4⟩ | ⟨d1, d2, d3, d4, d5⟩⟩
    · exact absurd c a1
    · exact absurd c a2
    · exact absurd ⟨d1, d2⟩ b1
    · exact ⟨by omega, fun _ => by omega⟩
theorem Th_same {k v k' v' : Int} {q q' : Nat} (h : ThR X w p k v q) (h' : ThM X w p k' v' q') : q = q' ∧ ((k = 0 ∧ k' = 0) ∨ (k = 1 ∧ k' = 2) ∨ (k = 2 ∧ k' = 1)) ∧ (k ≠ 0 → v = v') := by
  rcases h with ⟨a, b, c⟩ | ⟨a, _, c, ⟨d, e, f⟩ | ⟨d, e, f⟩⟩
  · rcases h' with ⟨a', b', c'⟩ | ⟨a', _⟩
    · exact ⟨by omega, Or.inl ⟨b, b'⟩, fun z => absurd b z⟩
    · exact absurd a a'
  · rcases h' with ⟨a', _⟩ | ⟨_, _, c', ⟨d', e', f'⟩ | ⟨d', e', f'⟩⟩
    · exact absurd a' a
    · exact ⟨by omega, Or.inr (Or.inl ⟨e, e'⟩), fun _ => by omega⟩
    · exact absurd d d'
  · rcases h' with ⟨a', _⟩ | ⟨_, _, c', ⟨d', e', f'⟩ | ⟨d', e', f'⟩⟩
    · exact absurd a' a
    · exact absurd d' d
    · exact ⟨by omega, Or.inr (Or.inr ⟨e, e'⟩), fun _ => by omega⟩
theorem DuX.det {q z z' : Nat} {v v' : Int} (h : DuX X q v z) (h' : DuX X q v' z') : v = v' ∧ z = z' := by
  rcases h with ⟨a, b, c, d, e⟩ | ⟨a, b, c⟩
  · rcases h' with ⟨_, _, _, d', e'⟩ | ⟨a', _⟩
    · exact ⟨by omega, by omega⟩
    · exact absurd a a'
  · rcases h' with ⟨a', _⟩ | ⟨_, b', c'⟩
    · exact absurd a' a
    · exact ⟨by omega, by omega⟩
/-- a condition's end is one -/
theorem con_end {q q' : Nat} (h : Rd (KT9 X) 3 0 p (Int.ofNat q)) (h' : To (KT9 X) (.inl (X0 p)) (.inr (true, q'))) : q = q' := by
  have c : CM9 X p (Int.ofNat q') := ⟨(true, q'), h', rfl⟩
  obtain ⟨_, b⟩ := C_same (X := X) p (Int.ofNat q) (Int.ofNat q') h c
  obtain ⟨b1, b2⟩ := b q rfl
  by_cases z : rc9 X q = 1 ∨ rc9 X q = 19 ∨ rc9 X q = 32
  · exact (Int.ofNat.inj (b1 z)).symm
  · have := b2 z
    cases this
theorem ftr_lt {q : Nat} (h : ftr (KT9 X) p = okR q) : p < q := by
  unfold ftr at h
  by_cases c8 : (KT9 X).c p = 8
  · rw [if_pos c8] at h
    by_cases c21 : (KT9 X).c ((KT9 X).n p) = 21
    · rw [if_pos c21] at h
      by_cases c22 : (KT9 X).c ((KT9 X).n ((KT9 X).n p)) = 22
      · rw [if_pos c22] at h
        have e := Int.ofNat.inj (Option.some.inj h)
        have a := (nx_lt (X := X) (p := p) (kc_2 (by omega) (by omega))).1
        have b : nx9t X p ≤ nx9t X (nx9t X p) := nx_le
        have c : nx9t X (nx9t X p) ≤ nx9t X (nx9t X (nx9t X p)) := nx_le
        have e : nx9t X (nx9t X (nx9t X p)) = q := e
        omega
      · rw [if_neg c22] at h; cases h
    · rw [if_neg c21] at h; cases h
  · rw [if_neg c8] at h; cases h
theorem nx_c (h : 0 < (KT9 X).c p) (h' : (KT9 X).c p ≠ 20) : p < (KT9 X).n p := (nx_lt (kc_2 h h')).1
variable {M : EmJ} {deep : Nat} {E : List ItJ} {gs : List GfE} {A A' : AuE}
theorem ft_lt2 {r : Option Int} {g : Nat → Option AuE} {p' : Nat} (hr : ∀ j, r = okR j → p < j) (h : ftE r g = some A') (hg : ∀ j, p < j → g j = some A' → p < A'.2.2.1) : p < A'.2.2.1 := by
  cases r with
  | none => cases h
  | some i =>
    cases i with
    | ofNat j => exact hg j (hr j rfl) h
    | negSucc j => cases h
theorem vd_lt {j : Nat} {g : GfE} (hj : p < j) (h : vdE j deep g gs E = some A') : p < A'.2.2.1 := by
  cases Option.some.inj h
  exact hj
theorem wan_lt {st : Bool} {g : GfE} (h : wanE (KT9 X) M st p deep g gs E = some A') : p < A'.2.2.1 := by
  unfold wanE at h
  have f2 : ∀ j, ftr (KT9 X) ((KT9 X).n p) = okR j → p < j := fun j q => by
    have a := ftr_lt q
    have b : p ≤ nx9t X p := nx_le
    have a : nx9t X p < j := a
    omega
  by_cases c1 : st = true ∧ (KT9 X).c p = 1
  · rw [if_pos c1] at h
    by_cases d : deep = 20
    · rw [if_pos d] at h; cases h
    · rw [if_neg d] at h; cases Option.some.inj h; exact nx_c (by omega) (by omega)
  rw [if_neg c1] at h
  by_cases c2 : st = true ∧ (KT9 X).c p = 2
  · rw [if_pos c2] at h
    refine ft_lt2 (p' := 0) f2 h (fun j hj q => ?_)
    cases Option.some.inj q; exact hj
  rw [if_neg c2] at h
  by_cases c3 : (KT9 X).c p = 3
  · rw [if_pos c3] at h
    by_cases d : deep = 20
    · rw [if_pos d] at h; cases h
    · rw [if_neg d] at h; cases Option.some.inj h; exact nx_c (by omega) (by omega)
  rw [if_neg c3] at h
  by_cases c4 : (KT9 X).c p = 4
  · rw [if_pos c4] at h
    by_cases d : deep = 20
    · rw [if_pos d] at h; cases h
    · rw [if_neg d] at h; cases Option.some.inj h; exact nx_c (by omega) (by omega)
  rw [if_neg c4] at h
  by_cases c5 : (KT9 X).c p = 5 ∨ (KT9 X).c p = 6
  · rw [if_pos c5] at h
    exact vd_lt (nx_c (by omega) (by omega)) h
  rw [if_neg c5] at h
  by_cases c7 : (KT9 X).c p = 7
  · rw [if_pos c7] at h
    exact ft_lt2 (p' := 0) f2 h (fun j hj q => vd_lt hj q)
  rw [if_neg c7] at h
  refine ft_lt2 (p' := 0) (fun j q => ftr_lt q) h (fun j hj q => ?_)
  by_cases c9 : (KT9 X).c j = 9
  · rw [if_pos c9] at q
    by_cases d : deep = 20
    · rw [if_pos d] at q; cases q
    · rw [if_neg d] at q; cases Option.some.inj q
      have := nx_c (X := X) (p := j) (by omega) (by omega)
      show p < (KT9 X).n j
      omega
  · rw [if_neg c9] at q
    exact vd_lt hj q
theorem gon_lt {g : GfE} (h : gonE (KT9 X) M p deep g gs E = some A') : p < A'.2.2.1 := by
  unfold gonE at h
  by_cases c1 : ((KT9 X).c p = 4 ∨ (KT9 X).c p = 12 ∨ (KT9 X).c p = 13) ∧ g.2.2.1 ≠ 2
  · rw [if_pos c1] at h
    cases Option.some.inj h; exact nx_c (by omega) (by omega)
  rw [if_neg c1] at h
  by_cases c2 : (KT9 X).c p = 14 ∧ g.1 < 2 ∧ g.2.2.1 = 0
  · rw [if_pos c2] at h
    cases Option.some.inj h; exact nx_c (by omega) (by omega)
  rw [if_neg c2] at h
  by_cases c3 : (KT9 X).c p = 15 ∧ g.1 < 2 ∧ g.2.2.1 = 0
  · rw [if_pos c3] at h
    refine ft_lt2 (p' := 0) (fun j q => ?_) h (fun j hj q => ?_)
    · have a := ftr_lt q
      have b : p ≤ nx9t X p := nx_le
      have a : nx9t X p < j := a
      omega
    · cases Option.some.inj q; exact hj
  rw [if_neg c3] at h
  by_cases c4 : ((KT9 X).c p = 16 ∨ (KT9 X).c p = 17) ∧ g.1 < 2 ∧ 0 < g.2.2.1
  · rw [if_pos c4] at h
    cases Option.some.inj h; exact nx_c (by omega) (by omega)
  rw [if_neg c4] at h
  by_cases c5 : ((KT9 X).c p = 11 ∧ (g.1 = 2 ∨ (g.1 = 1 ∧ (0 < g.2.2.1 ∨ g.2.1 = false)))) ∨ ((KT9 X).c p = 10 ∧ g.1 = 3)
  · rw [if_pos c5] at h
    cases gs with
    | nil => cases h
    | cons g2 gs2 =>
      have pl : p < (KT9 X).n p := nx_c (by omega) (by omega)
      unfold clsE at h
      dsimp only at h
      by_cases c : g.1 = 1 ∧ 0 < g.2.2.1
      · rw [if_pos c] at h; cases Option.some.inj h; exact pl
      · rw [if_neg c] at h
        exact vd_lt pl h
  · rw [if_neg c5] at h; cases h
theorem st_lt (h : stE (KT9 X) M A = some A') : A.2.2.1 < A'.2.2.1 := by
  obtain ⟨wa, st, p, deep, ⟨g, gs⟩, E⟩ := A
  cases wa with
  | true => exact wan_lt h
  | false => exact gon_lt h
theorem sn_le : ∀ {n : Nat} {A A' : AuE}, snE (KT9 X) M n A = some A' → A.2.2.1 + n ≤ A'.2.2.1
  | 0, A, A', h => by cases Option.some.inj h; exact Nat.le_refl _
  | n + 1, A, A', h => by
    unfold snE at h
    cases e : stE (KT9 X) M A with
    | none => rw [e] at h; cases h
    | some Y =>
      rw [e] at h
      have a := st_lt e
      have b := sn_le (n := n) h
      omega
theorem sn_split : ∀ {n m : Nat} {A Y Z : AuE}, snE (KT9 X) M n A = some Y → snE (KT9 X) M (n + m) A = some Z → snE (KT9 X) M m Y = some Z
  | 0, m, A, Y, Z, h, h' => by cases Option.some.inj h; rw [Nat.zero_add] at h'; exact h'
  | n + 1, m, A, Y, Z, h, h' => by
    rw [Nat.add_right_comm] at h'
    unfold snE at h h'
    cases e : stE (KT9 X) M A with
    | none => rw [e] at h; cases h
    | some W =>
      rw [e] at h h'
      exact sn_split (n := n) h h'
/-- two states of one way at one place are one -/
theorem ToE.one_at {A Y Z : AuE} (h : ToE (KT9 X) M A Y) (h' : ToE (KT9 X) M A Z) (e : Y.2.2.1 = Z.2.2.1) : Y = Z := by
  obtain ⟨n, a⟩ := h
  obtain ⟨m, b⟩ := h'
  rcases Nat.le_total n m with q | q
  · rw [show m = n + (m - n) by omega] at b
    have c := sn_split a b
    have d := sn_le c
    have z : m - n = 0 := by omega
    rw [z] at c
    exact Option.some.inj c
  · rw [show n = m + (n - m) by omega] at a
    have c := sn_split b a
    have d := sn_le c
    have z : n - m = 0 := by omega
    rw [z] at c
    exact (Option.some.inj c).symm
/-- from the rows to the code -/
theorem EmL.tl {τ : zS} {f0 : Nat} {x : ItJ} {L : List ItJ} (h : EmL τ f0 (x :: L)) : EmL τ (f0 + 1) L := fun i y hy => by
  have := h (i + 1) y hy
  rw [show f0 + 1 + i = f0 + (i + 1) by omega]
  exact this
theorem qr_run {τ : zS} : ∀ {L : List ItJ} {f0 : Nat} {h : Int}, EmL τ f0 L → qrun (fun i => (τ.1 141 i).toInt) L.length f0 h = qrL L h
  | [], _, _, _ => rfl
  | x :: L, f0, h, e => by
    have a := (e 0 x rfl).1.1
    show (qst (τ.1 141 f0).toInt h).bind (fun h' => qrun (fun i => (τ.1 141 i).toInt) L.length (f0 + 1) h') = _
    have a : (τ.1 141 f0).toInt = (x.1 : Int) := a
    rw [a]
    unfold qrL
    cases q : qst (x.1 : Int) h with
    | none => rfl
    | some h' => exact qr_run e.tl
end L37

end
end
