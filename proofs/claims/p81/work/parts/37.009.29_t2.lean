noncomputable section
noncomputable def hb9L9 (mm : Mm) (b : AV) (s : Sy) : List (AV × AV) := (ff s 1 b mm).flatMap fun q => bif isC 1 q.2 then ff s 8 q.1 mm else []
theorem pw_okL9 {m o : AV} {ρ : List Int} (h : o ∈ pw m) : ∃ n : Nat, n < 6 ∧ o = .c (n : Int) ∧ ev ρ m = some ((2 ^ n : Nat) : Int) := by
  unfold pw at h
  cases h1 : isC 1 m with
  | true => rw [h1] at h; rcases List.mem_cons.mp h with rfl | h; exact ⟨0, by decide, rfl, isC_ok h1⟩; cases h
  | false =>
  rw [h1] at h
  cases h2 : isC 2 m with
  | true => rw [h2] at h; rcases List.mem_cons.mp h with rfl | h; exact ⟨1, by decide, rfl, isC_ok h2⟩; cases h
  | false =>
  rw [h2] at h
  cases h3 : isC 4 m with
  | true => rw [h3] at h; rcases List.mem_cons.mp h with rfl | h; exact ⟨2, by decide, rfl, isC_ok h3⟩; cases h
  | false =>
  rw [h3] at h
  cases h4 : isC 8 m with
  | true => rw [h4] at h; rcases List.mem_cons.mp h with rfl | h; exact ⟨3, by decide, rfl, isC_ok h4⟩; cases h
  | false =>
  rw [h4] at h
  cases h5 : isC 16 m with
  | true => rw [h5] at h; rcases List.mem_cons.mp h with rfl | h; exact ⟨4, by decide, rfl, isC_ok h5⟩; cases h
  | false =>
  rw [h5] at h
  cases h6 : isC 32 m with
  | true => rw [h6] at h; rcases List.mem_cons.mp h with rfl | h; exact ⟨5, by decide, rfl, isC_ok h6⟩; cases h
  | false => rw [h6] at h; cases h
theorem hb9_okL9 {J : Jt} {s : Sy} {ρ : List Int} {σ : zS} (h : Ok J s ρ σ) {b : AV} {z : Int} (hz : ev ρ b = some z) {mm : Mm} (hm : MmOk ρ mm) {q : AV × AV} (hq : q ∈ hb9L9 mm b s) : ∃ t o : Int, ev ρ q.1 = some t ∧ ev ρ q.2 = some o ∧ R840L9 t o z := by
  obtain ⟨q0, g1, g2⟩ := List.mem_flatMap.mp hq
  cases hc : isC 1 q0.2 with
  | false => rw [hc] at g2; cases g2
  | true =>
    rw [hc] at g2
    obtain ⟨x, y, e1, e2, e3⟩ := ff_ok h hz hm q0 g1
    have ey : y = 1 := Int32.toInt_inj.mp (Option.some.inj (e2.symm.trans (isC_ok (ρ := ρ) hc)))
    obtain ⟨t, o, f1, f2, f3⟩ := ff_ok h e1 hm q g2
    have ex : x = Bo.i .ishr t o := Int32.toInt_inj.mp f3
    refine ⟨t.toInt, o.toInt, f1, f2, t, rfl, fun n h2 h3 => ?_⟩
    rw [e3, ey, ex]
    exact bit_rdL9 h2 h3
theorem st_R843L9 {x o : Int32} : R843L9 x.toInt o.toInt (Bo.i .ior x (Bo.i .ishl 1 o)).toInt 1 := ⟨x, _, rfl, rfl, fun n h3 h4 m h5 => by
  rw [bit_stL9 h3 h4 h5]
  by_cases em : m = n
  · rw [if_pos em, decide_eq_true em, Bool.or_true]; rfl
  · rw [if_neg em, decide_eq_false em, Bool.or_false]⟩
theorem hb7_okL9 {J : Jt} {s : Sy} {ρ : List Int} {σ : zS} (h : Ok J s ρ σ) {b : AV} {z : Int} (hz : ev ρ b = some z) {mm : Mm} (hm : MmOk ρ mm) {q : AV × (AV × Int)} (hq : q ∈ hb7 mm b s) : ∃ t o : Int, ev ρ q.1 = some t ∧ ev ρ q.2.1 = some o ∧ R843L9 t o z q.2.2 := by
  have p2 : ∀ n, n < 6 → (Bo.i .ishl 1 (Int32.ofNat n)).toInt = ((2 ^ n : Nat) : Int) := by decide +kernel
  have pk : ∀ n, n < 6 → (Int32.ofNat n).toInt = (n : Int) := by decide
  rcases List.mem_append.mp hq with hq | hq
  · obtain ⟨q0, g1, g2⟩ := List.mem_flatMap.mp hq
    obtain ⟨x, y, e1, e2, e3⟩ := ff_ok h hz hm q0 g1
    rcases List.mem_append.mp g2 with g2 | g2
    · obtain ⟨o, g3, rfl⟩ := List.mem_map.mp g2
      obtain ⟨n, n1, rfl, n2⟩ := pw_okL9 (ρ := ρ) g3
      have ey : y = Bo.i .ishl 1 (Int32.ofNat n) := Int32.toInt_inj.mp ((Option.some.inj (e2.symm.trans n2)).trans (p2 n n1).symm)
      refine ⟨x.toInt, (n : Int), e1, rfl, ?_⟩
      rw [e3, ey, ← pk n n1]
      exact st_R843L9
    · obtain ⟨r, g3, g4⟩ := List.mem_flatMap.mp g2
      cases hc : isC 1 r.1 with
      | false => rw [hc] at g4; cases g4
      | true =>
        rw [hc] at g4
        rcases List.mem_cons.mp g4 with rfl | g4
        · obtain ⟨u, o, f1, f2, f3⟩ := ff_ok h e2 hm r g3
          have eu : u = 1 := Int32.toInt_inj.mp (Option.some.inj (f1.symm.trans (isC_ok (ρ := ρ) hc)))
          have ey : y = Bo.i .ishl u o := Int32.toInt_inj.mp f3
          refine ⟨x.toInt, o.toInt, e1, f2, ?_⟩
          rw [e3, ey, eu]
          exact st_R843L9
        · cases g4
  rcases List.mem_append.mp hq with hq | hq
  · obtain ⟨q0, g1, g2⟩ := List.mem_flatMap.mp hq
    obtain ⟨r, g3, g4⟩ := List.mem_flatMap.mp g2
    cases hc : isC (-1) r.2 with
    | false => rw [hc] at g4; cases g4
    | true =>
      rw [hc] at g4
      obtain ⟨u, g5, g6⟩ := List.mem_flatMap.mp g4
      cases hd : isC 1 u.1 with
      | false => rw [hd] at g6; cases g6
      | true =>
        rw [hd] at g6
        rcases List.mem_cons.mp g6 with rfl | g6
        · obtain ⟨x, y, e1, e2, e3⟩ := ff_ok h hz hm q0 g1
          obtain ⟨k, k', f1, f2, f3⟩ := ff_ok h e2 hm r g3
          obtain ⟨c, o, c1, c2, c3⟩ := ff_ok h f1 hm u g5
          have ek : k' = -1 := Int32.toInt_inj.mp (Option.some.inj (f2.symm.trans (isC_ok (ρ := ρ) hc)))
          have ec : c = 1 := Int32.toInt_inj.mp (Option.some.inj (c1.symm.trans (isC_ok (ρ := ρ) hd)))
          have e5 : k = Bo.i .ishl c o := Int32.toInt_inj.mp c3
          have ey : y = Bo.i .ixor k k' := Int32.toInt_inj.mp f3
          refine ⟨x.toInt, o.toInt, e1, c2, x, Bo.i .iand x (Bo.i .ixor (Bo.i .ishl 1 o) (-1)), rfl, ?_, fun n h3 h4 m h5 => ?_⟩
          · rw [e3, ey, e5, ek, ec]; rfl
          · rw [bit_clL9 h3 h4 h5]
            by_cases em : m = n
            · rw [if_pos em, decide_eq_true em, Bool.not_true, Bool.and_false]; rfl
            · rw [if_neg em, decide_eq_false em, Bool.not_false, Bool.and_true]
        · cases g6
  · obtain ⟨u, g1, g2⟩ := List.mem_flatMap.mp hq
    cases hd : isC 1 u.1 with
    | false => rw [hd] at g2; cases g2
    | true =>
      rw [hd] at g2
      rcases List.mem_cons.mp g2 with rfl | g2
      · obtain ⟨c, o, c1, c2, c3⟩ := ff_ok h hz hm u g1
        have ec : c = 1 := Int32.toInt_inj.mp (Option.some.inj (c1.symm.trans (isC_ok (ρ := ρ) hd)))
        have z0 : ∀ m, m < 6 → bitN (0 : Int32) m = false := by decide +kernel
        refine ⟨0, o.toInt, rfl, c2, 0, Bo.i .ishl 1 o, rfl, ?_, fun n h3 h4 m h5 => ?_⟩
        · rw [c3, ec]; rfl
        · have e := bit_oneL9 n h4 m h5
          rw [bit_kL9 h3 h4]
          show b2i (bitN ((1 : Int32) <<< (Int32.ofNat n &&& 31)) m) = _
          rw [e]
          by_cases em : m = n
          · rw [if_pos em, decide_eq_true em]; rfl
          · rw [if_neg em, decide_eq_false em, z0 m h5]
      · cases g2
noncomputable def hbs9L9 (mm : Mm) (b : AV) (s : Sy) : Sy := match hb9L9 mm b s with
  | q :: _ => s.seth ((840, q.1) :: (841, q.2) :: (842, b) :: hdel 840 (hdel 841 (hdel 842 s.hl)))
  | [] => s
/-- 9; else 7, where there is what it asks for; else 27 -/
noncomputable def hbxL9 (l : List (Nat × (Nat × Nat))) (mm : Mm) (f : Fm) (s : Sy) : Sy := match f.st with
  | b :: _ => bif b.isI then (bif hbA 9 l then hbs9L9 mm b s else bif hbA 7 l && !(isNil (hb7 mm b s)) then hbs7 mm b s else bif hbA 27 l then hbs27 mm b s else s) else s
  | [] => s
theorem hbx_okL9 {J : Jt} (hB : PBtL9 J) {l : List (Nat × (Nat × Nat))} {mm : Mm} {f : Fm} {s : Sy} {ρ : List Int} {σ : zS} {v : List Value} (ho : Ok J s ρ σ) (hm : MmOk ρ mm) (hs : Rs ρ f.st v) : Ok J (hbxL9 l mm f s) ρ σ := by
  unfold hbxL9
  split
  · rename_i b st hst
    cases hi : b.isI with
    | false => exact ho
    | true =>
      simp only [cond_true]
      rw [hst] at hs
      obtain ⟨w1, v1, rfl, ha, _⟩ := hs.cons
      obtain ⟨z, _, hz⟩ := ha.int hi
      cases h9 : hbA 9 l with
      | true =>
        simp only [cond_true]
        unfold hbs9L9
        split
        · rename_i q r hq
          obtain ⟨t, o, e1, e2, e3⟩ := hb9_okL9 ho hz hm (show q ∈ hb9L9 mm b s by rw [hq]; exact List.mem_cons_self ..)
          obtain ⟨H, i1, i2⟩ := ho.inv
          exact ⟨ho.len, ho.env, ho.me, ho.cg, ho.df, ho.fa, (840, t) :: (841, o) :: (842, z.toInt) :: hdel 840 (hdel 841 (hdel 842 H)), ⟨⟨rfl, e1⟩, ⟨rfl, e2⟩, ⟨rfl, hz⟩, ((i1.del).del).del⟩, hB.1 H σ t o _ e3 i2⟩
        · exact ho
      | false =>
        simp only [cond_false]
        cases h7 : hbA 7 l && !(isNil (hb7 mm b s)) with
        | true =>
          simp only [cond_true]
          unfold hbs7
          split
          · rename_i q r hq
            obtain ⟨t, o, e1, e2, e3⟩ := hb7_okL9 ho hz hm (show q ∈ hb7 mm b s by rw [hq]; exact List.mem_cons_self ..)
            obtain ⟨H, i1, i2⟩ := ho.inv
            exact ⟨ho.len, ho.env, ho.me, ho.cg, ho.df, ho.fa, (843, t) :: (844, o) :: (845, z.toInt) :: (846, q.2.2) :: hdel 843 (hdel 844 (hdel 845 (hdel 846 H))), ⟨⟨rfl, e1⟩, ⟨rfl, e2⟩, ⟨rfl, hz⟩, ⟨rfl, rfl⟩, (((i1.del).del).del).del⟩, hB.2.1 H σ t o _ _ e3 i2⟩
          · exact ho
        | false =>
          simp only [cond_false]
          cases h27 : hbA 27 l with
          | false => exact ho
          | true =>
            simp only [cond_true]
            unfold hbs27
            split
            · rename_i q r hq
              obtain ⟨x, y, e1, e2, e3⟩ := hb27_ok ho hz hm (show q ∈ ff s 2 b mm by rw [hq]; exact List.mem_cons_self ..)
              obtain ⟨H, i1, i2⟩ := ho.inv
              exact ⟨ho.len, ho.env, ho.me, ho.cg, ho.df, ho.fa, (847, x) :: (848, y) :: (849, z.toInt) :: hdel 847 (hdel 848 (hdel 849 H)), ⟨⟨rfl, e1⟩, ⟨rfl, e2⟩, ⟨rfl, hz⟩, ((i1.del).del).del⟩, hB.2.2 H σ x y _ e3 i2⟩
            · exact ho
  · exact ho
noncomputable abbrev HObL9 (G : Gx) (J : Jt) : Prop := HOk G J ∧ PBtL9 J
noncomputable def hintPL9 (G : Gx) (V : Pv) (kt : Kont) (w : Wk2) (s : Sy) (mm : Mm) (fs : List Fm) : Bool := match fs with
  | [] => false
  | f :: gs => match V.2.1.get (f.m * 65536 + f.pc) with
    | none => stepP G V kt w s mm f gs
    | some l => match hApply G f l (hbxL9 l mm f s) with
      | none => true
      | some s => bif (l.any fun h => Nat.beq h.1 8) && infe s then true else bif isSp5 l then (match f.st with
        | b :: a :: _ => bif (a.isI && b.isI) || (a.isL && b.isL) then cutP G V kt w s mm f gs .lt a b && (cutP G V kt w s mm f gs .eq a b && cutP G V kt w s mm f gs .gt a b) else false
        | _ => false) else match f.st with
        | a :: _ => bif isSpl l && (a.isI && many (dom s a)) then (enum (dom s a)).all (fun j => match s.cut .eq a (.c j) with
          | some s' => w s' mm (f :: gs)
          | none => true) else stepP G V kt w s mm f gs
        | [] => stepP G V kt w s mm f gs
noncomputable def walkPL9 (G : Gx) (V : Pv) (kt : Kont) : Nat → Wk2
  | 0 => fun _ _ _ => false
  | n + 1 => hintPL9 G V kt (walkPL9 G V kt n)
section P8
variable {E : xV} {Y : Nat → xY} {G : Gx} {J : Jt} {V : Pv} {Q : Qt} {ρ1 : List Int} {kt : Kont}
theorem stepP_okL9 (hG : GxOk Y G) (hJ : POk G.g G.P J) (hQ : QLp E Y V.1 Q) (hT : ScT E Y J V) (hk : PK J Q ρ1 kt) {w : Wk2} (hw : PS J Q ρ1 w) {s : Sy} {mm : Mm} {f : Fm} {fs : List Fm} {ρ : List Int} {σ : zS} {cs : List CF} (h : stepP G V kt w s mm f fs = true) (hp : Pre ρ1 ρ) (ho : Ok J s ρ σ) (hm : MmOk ρ mm) (hr : Rg ρ (f :: fs) cs) : Q cs none σ := by
  cases cs with
  | nil => exact hr.elim
  | cons c cs =>
  obtain ⟨cm, cpc, l, v⟩ := c
  obtain ⟨⟨⟨e1, e2⟩, hl, hs⟩, hr⟩ := hr
  dsimp only at e1 e2 hl hs
  subst e1
  subst e2
  unfold stepP at h
  cases hD : okD V.1 f.st with
  | false => rw [hD] at h; cases h
  | true =>
  rw [hD] at h
  simp only [cond_true] at h
  cases hc : (G.g.code f.m).get f.pc with
  | none => rw [hc] at h; cases h
  | some q =>
    obtain ⟨ix, len⟩ := q
    rw [hc] at h
    dsimp only at h
    obtain ⟨d, hfit, hlen⟩ := hG.g.code _ _ _ _ hc
    cases hb : bop ix with
    | some n =>
      rw [hb] at h
      dsimp only at h
      unfold bopP at h
      split at h
      · rename_i b a st' hst
        rw [hst] at hs
        obtain ⟨w1, v1, rfl, hb9L9, hs1⟩ := hs.cons
        obtain ⟨w2, v2, rfl, ha9, hs2⟩ := hs1.cons
        cases hi : a.isI && b.isI with
        | false => rw [hi] at h; cases h
        | true =>
          rw [hi] at h
          simp only [cond_true] at h
          rw [Bool.and_eq_true] at hi
          obtain ⟨x, rfl, hx⟩ := ha9.int hi.1
          obtain ⟨y, rfl, hy⟩ := hb9L9.int hi.2
          obtain ⟨ρ', p1, p2, p3, p4, p5⟩ := mstep_ok (n := n) ho hm hi.1 hi.2 hx hy
          cases bop_len hb hlen
          exact g_bop (hQ.lft cs) hb d (goP_ok hk hw h (hp.tr p1) p2 p3 ⟨⟨⟨rfl, rfl⟩, hl.mono p1, Rv.of_int p4 p5, hs2.mono p1⟩, hr.mono p1⟩)
      · cases h
    | none =>
      rw [hb] at h
      dsimp only at h
      split at h
      · rename_i y hkd
        have e := pkd_1 hkd
        subst e
        unfold irP at h
        split at h
        · rename_i a q1 q2 q3 t q4 hst hrm
          rw [Bool.and_eq_true] at h
          rw [hst] at hs
          obtain ⟨w1, v1, rfl, ha, hs1⟩ := hs.cons
          cases hs1.nil
          obtain ⟨-, -, m0, m1, m2, m3, m4, m5⟩ := hG.room _ _ _ _ _ _ hrm
          obtain ⟨y, ty, rfl, g1, g2⟩ := retFits_ok ho h.1 ha m1 m2 m4 m5
          cases lenOf (a := 1) hlen (by decide)
          exact retP_ok (top := (f.m, (f.pc, (l, [.int y])))) (rv := some (.int y)) hQ hT hk hw (fun τ K q => z_iret g1 g2 d q) h.2 hp ho hm ha hr
        · cases h
      · rename_i y hkd
        have e := pkd_2 hkd
        subst e
        unfold lrP at h
        split at h
        · rename_i a q1 q2 q3 t q4 hst hrm
          simp only [Bool.and_eq_true] at h
          rw [hst] at hs
          obtain ⟨w1, v1, rfl, ha, hs1⟩ := hs.cons
          cases hs1.nil
          obtain ⟨-, -, m0, m1, m2, m3, m4, m5⟩ := hG.room _ _ _ _ _ _ hrm
          obtain ⟨y, rfl, hy⟩ := ha.long h.1.2
          cases lenOf (a := 1) hlen (by decide)
          exact retP_ok (top := (f.m, (f.pc, (l, [.long y])))) (rv := some (.long y)) hQ hT hk hw (fun τ K q => z_lret (m3 (Nat.eq_of_beq_eq_true h.1.1)) d q) h.2 hp ho hm ha hr
        · cases h
      · rename_i y hkd
        have e := pkd_3 hkd
        subst e
        unfold vrP at h
        split at h
        · rename_i q1 q2 q3 t q4 hst hrm
          rw [Bool.and_eq_true] at h
          rw [hst] at hs
          cases hs.nil
          obtain ⟨-, -, m0, m1, m2, m3, m4, m5⟩ := hG.room _ _ _ _ _ _ hrm
          cases lenOf (a := 1) hlen (by decide)
          exact retP_ok (top := (f.m, (f.pc, (l, [])))) (rv := none) hQ hT hk hw (fun τ K q => z_vret (m0 (Nat.eq_of_beq_eq_true h.1)) d q) h.2 hp ho hm (a := none) trivial hr
        · cases h
      · rename_i x hkd
        have e := pkd_4 hkd
        subst e
        unfold isP at h
        split at h
        · rename_i z k hcl
          obtain ⟨g1, g2, -⟩ := hG.call _ _ _ _ _ (Nat.le_of_ble_eq_true hfit) hcl
          split at h
          · rename_i args rest hpo
            obtain ⟨as, vr, rfl, e2, e3, e4⟩ := pops_ok (as0 := []) hpo hs trivial
            rw [List.append_nil] at e2
            cases lenOf (a := 3) hlen (by decide)
            exact callP_ok (av := as) (vr := vr) hG hJ hQ hT hk hw h (fun τ K hh q => z_invS (Z := Y z) g1 (g2 rfl) hh.1 ⟨d, rfl⟩ e4 rfl hh.2.1 hh.2.2.1 hh.2.2.2 q) hp ho hm hl e2 e3 hr
          · cases h
        · exact genP_ok hG hJ hQ hT hk hw h hD d hfit hlen hp ho hm hl hs hr
      · rename_i x hkd
        have e := pkd_5 hkd
        subst e
        unfold ivP at h
        split at h
        · rename_i z k hcl
          obtain ⟨g1, -, g3⟩ := hG.call _ _ _ _ _ (Nat.le_of_ble_eq_true hfit) hcl
          obtain ⟨⟨g4, g5⟩, g6⟩ := g3 rfl
          split at h
          · rename_i kb args rest hpo
            split at h
            · rename_i q1 q2 q3 q4 q5 hrm
              simp only [Bool.and_eq_true, Bool.not_eq_true'] at h
              obtain ⟨as, vr, rfl, e2, e3, e4⟩ := pops_ok (as0 := []) hpo hs trivial
              rw [List.append_nil] at e2
              have hkb := Nat.eq_of_beq_eq_true h.1.1
              subst hkb
              have hne : q5 ≠ 1000 := fun e => by
                have := h.1.2
                rw [e] at this
                cases this
              cases as with
              | nil => exact e2.elim
              | cons a0 as =>
                have ha0 : a0 = .ref q5 := e2.1
                subst ha0
                cases lenOf (a := 3) hlen (by decide)
                rcases g6 _ _ _ _ _ hrm with ⟨g7, ci, ll, g8, g9, g10⟩ | ⟨q, _⟩
                · exact callP_ok (av := .ref q5 :: as) (vr := vr) hG hJ hQ hT hk hw h.2 (fun τ K hh q => z_invV (Z := Y z) g1 g4 g5 g7 g8 g9 g10 hh.1 ⟨d, rfl⟩ (As := as) (rest := vr) (by simpa using e4) (by simp) hh.2.1 hh.2.2.1 hh.2.2.2 q) hp ho hm hl e2 e3 hr
                · exact absurd q hne
            · cases h
          · cases h
        · cases h
      · exact genP_ok hG hJ hQ hT hk hw h hD d hfit hlen hp ho hm hl hs hr
theorem cutP_okL9 (hG : GxOk Y G) (hJ : POk G.g G.P J) (hQ : QLp E Y V.1 Q) (hT : ScT E Y J V) (hk : PK J Q ρ1 kt) {w : Wk2} (hw : PS J Q ρ1 w) {s : Sy} {mm : Mm} {f : Fm} {fs : List Fm} {ρ : List Int} {σ : zS} {cs : List CF} {c : Cm} {a b : AV} {x y : Int} (h : cutP G V kt w s mm f fs c a b = true) (hx : ev ρ a = some x) (hy : ev ρ b = some y) (hdx : inD x (dom s a)) (hdy : inD y (dom s b)) (hc : c.ok x y) (hp : Pre ρ1 ρ) (ho : Ok J s ρ σ) (hm : MmOk ρ mm) (hr : Rg ρ (f :: fs) cs) : Q cs none σ := by
  obtain ⟨s', c1, c2⟩ := Sy.cut_ok (c := c) ho hx hy hdx hdy hc
  unfold cutP at h
  rw [c1] at h
  exact stepP_okL9 hG hJ hQ hT hk hw h hp c2 hm hr
theorem hintP_okL9 (hG : GxOk Y G) (hJ : POk G.g G.P J) (hX : HObL9 G J) (hQ : QLp E Y V.1 Q) (hT : ScT E Y J V) (hk : PK J Q ρ1 kt) {w : Wk2} (hw : PS J Q ρ1 w) : PS J Q ρ1 (hintPL9 G V kt w) := by
  intro s mm fs ρ σ cs h hp ho hm hr
  unfold hintPL9 at h
  split at h
  · cases h
  · rename_i f gs
    split at h
    · exact stepP_okL9 hG hJ hQ hT hk hw h hp ho hm hr
    · rename_i l hl9
      have top0 : ∃ l v cs', cs = (f.m, (f.pc, (l, v))) :: cs' ∧ Rs ρ f.st v := by
        cases cs with
        | nil => exact hr.elim
        | cons c cs =>
          obtain ⟨cm, cpc, l, v⟩ := c
          obtain ⟨⟨⟨e1, e2⟩, hl, hs⟩, hr⟩ := hr
          dsimp only at e1 e2 hl hs
          subst e1
          subst e2
          exact ⟨l, v, cs, rfl, hs⟩
      obtain ⟨_, v0, _, _, hs0⟩ := top0
      obtain ⟨s1, ρ', q1, q2, o1⟩ := hApply_ok hJ hX.1 (f := f) (l := l) (hbx_okL9 hX.2 (l := l) (f := f) ho hm hs0)
      rw [q1] at h
      dsimp only at h
      replace hp := hp.tr q2
      replace hm := hm.mono q2
      replace hr := hr.mono q2
      have top : ∃ l v cs', cs = (f.m, (f.pc, (l, v))) :: cs' ∧ Rs ρ' f.st v := by
        cases cs with
        | nil => exact hr.elim
        | cons c cs =>
          obtain ⟨cm, cpc, l, v⟩ := c
          obtain ⟨⟨⟨e1, e2⟩, hl, hs⟩, hr⟩ := hr
          dsimp only at e1 e2 hl hs
          subst e1
          subst e2
          exact ⟨l, v, cs, rfl, hs⟩
      obtain ⟨_, v, _, _, hs⟩ := top
      cases h8 : (l.any fun h => Nat.beq h.1 8) && infe s1 with
      | true => rw [Bool.and_eq_true] at h8; exact (infe_ok o1 h8.2).elim
      | false =>
      rw [h8] at h
      simp only [cond_false] at h
      cases h5 : isSp5 l with
      | true =>
        rw [h5] at h
        simp only [cond_true] at h
        split at h
        · rename_i b a st' hst
          cases hc : (a.isI && b.isI) || (a.isL && b.isL) with
          | false => rw [hc] at h; cases h
          | true =>
            rw [hc] at h
            simp only [cond_true, Bool.and_eq_true] at h
            rw [hst] at hs
            obtain ⟨w1, v1, rfl, hb9L9, hs1⟩ := hs.cons
            obtain ⟨w2, v2, rfl, ha9, hs2⟩ := hs1.cons
            have hxy : ∃ x y : Int, ev ρ' a = some x ∧ ev ρ' b = some y ∧ inD x (dom s1 a) ∧ inD y (dom s1 b) := by
              rw [Bool.or_eq_true, Bool.and_eq_true, Bool.and_eq_true] at hc
              rcases hc with hc | hc
              · obtain ⟨x, _, hx⟩ := ha9.int hc.1
                obtain ⟨y, _, hy⟩ := hb9L9.int hc.2
                exact ⟨x.toInt, y.toInt, hx, hy, dom_i o1 hc.1 hx, dom_i o1 hc.2 hy⟩
              · obtain ⟨x, _, hx⟩ := ha9.long hc.1
                obtain ⟨y, _, hy⟩ := hb9L9.long hc.2
                exact ⟨x.toInt, y.toInt, hx, hy, dom_l o1 hc.1 hx, dom_l o1 hc.2 hy⟩
            obtain ⟨x, y, hx, hy, hdx, hdy⟩ := hxy
            rcases Int.lt_trichotomy x y with q | q | q
            · exact cutP_okL9 hG hJ hQ hT hk hw h.1 hx hy hdx hdy q hp o1 hm hr
            · exact cutP_okL9 hG hJ hQ hT hk hw h.2.1 hx hy hdx hdy q hp o1 hm hr
            · exact cutP_okL9 hG hJ hQ hT hk hw h.2.2 hx hy hdx hdy q hp o1 hm hr
        · cases h
      | false =>
        rw [h5] at h
        simp only [cond_false] at h
        split at h
        · rename_i a st' hst
          cases hc : isSpl l && (a.isI && many (dom s1 a)) with
          | false => rw [hc] at h; exact stepP_okL9 hG hJ hQ hT hk hw h hp o1 hm hr
          | true =>
            rw [hc] at h
            simp only [Bool.and_eq_true] at hc
            simp only [cond_true] at h
            rw [hst] at hs
            obtain ⟨w1, v1, rfl, ha, hs1⟩ := hs.cons
            obtain ⟨y, rfl, hy⟩ := ha.int hc.2.1
            have hd := dom_i o1 hc.2.1 hy
            have h1 := List.all_eq_true.mp h y.toInt (enum_in hd)
            obtain ⟨s', c1, c2⟩ := Sy.cut_ok (c := .eq) o1 hy (b := .c y.toInt) rfl hd eqc rfl
            rw [c1] at h1
            exact hw s' mm (f :: gs) ρ' σ cs h1 hp c2 hm hr
        · exact stepP_okL9 hG hJ hQ hT hk hw h hp o1 hm hr
theorem walkP_okL9 (hG : GxOk Y G) (hJ : POk G.g G.P J) (hX : HObL9 G J) (hQ : QLp E Y V.1 Q) (hT : ScT E Y J V) (hk : PK J Q ρ1 kt) : ∀ n : Nat, PS J Q ρ1 (walkPL9 G V kt n)
  | 0 => by
    intro s mm fs ρ σ cs h
    cases h
  | n + 1 => hintP_okL9 hG hJ hX hQ hT hk (walkP_okL9 hG hJ hX hQ hT hk n)
end P8
end
