section
/-! ===== both evaluators come to the same ===== -/
theorem gd_le {f : Nat} {x : EntJ} {n : Nat} (h : x.1 ≤ n) (hn : 2 ≤ n) : (gd f x).1 ≤ n := by
  unfold gd; split
  · exact h
  · exact hn
theorem it_le (σ : zS) (f : Nat) (i : Int) : (itJ σ f i).1 ≤ 3 := by
  unfold itJ; split
  · exact (by decide : 2 ≤ 3)
  · split
    · exact Nat.le_refl 3
    · show (if (σ.1 121 f).toInt = 2 then 1 else 0) ≤ 3
      split <;> omega
theorem ar_le (c : Nat) (x y : EntJ) : (arJ c x y).1 ≤ 3 ∧ (arJ c x y).1 ≠ 2 := by
  unfold arJ; split
  · split
    · exact ⟨Nat.le_refl 3, by decide⟩
    · exact ⟨Nat.zero_le 3, by show (0 : Nat) ≠ 2; decide⟩
  · exact ⟨by show 1 ≤ 3; decide, by show (1 : Nat) ≠ 2; decide⟩
theorem cp_45 (c : Int) (x y : EntJ) : (cpJ c x y).1 = 4 ∨ (cpJ c x y).1 = 5 := by
  unfold cpJ
  repeat' split
  all_goals first | exact Or.inl rfl | exact Or.inr rfl
theorem mg_25 (σ : zS) (f : Nat) (v : Int) : 2 ≤ (mgJ σ f v).1 ∧ (mgJ σ f v).1 ≤ 5 := by
  unfold mgJ
  repeat' split
  all_goals first | exact ⟨by show 2 ≤ 2; decide, by show 2 ≤ 5; decide⟩ | exact ⟨by show 2 ≤ 3; decide, by show 3 ≤ 5; decide⟩ | exact ⟨by show 2 ≤ 4; decide, by show 4 ≤ 5; decide⟩ | exact ⟨by show 2 ≤ 5; decide, by show 5 ≤ 5; decide⟩
theorem evm_ok (σ : zS) (w u t : Int) : (EvM σ w u t).ok := by
  refine ⟨fun c v => ?_, fun f v => gd_le (by unfold paJ; exact it_le _ _ _) (by decide), fun x hx => ?_, ar_le, fun c x y => cp_45 _ x y, fun f v => ?_, fun f => ?_⟩
  · show (if c < 2 then (c, v) else if c = 2 then (0, t) else if c = 3 then (0, (σ.1 110 0).toInt - t) else if c = 4 then gd (fsJ w u (c32 v)) (itJ σ (fsJ w u (c32 v)) 0) else gd (fsJ w u (c32 v)) ((if (σ.1 121 (fsJ w u (c32 v))).toInt = 0 then 2 else 0), (σ.1 122 (fsJ w u (c32 v))).toInt) : EntJ).1 ≤ 3
    by_cases h0 : c < 2
    · rw [if_pos h0]; show c ≤ 3; omega
    rw [if_neg h0]
    by_cases h2 : c = 2
    · rw [if_pos h2]; exact Nat.zero_le 3
    rw [if_neg h2]
    by_cases h3 : c = 3
    · rw [if_pos h3]; exact Nat.zero_le 3
    rw [if_neg h3]
    by_cases h4 : c = 4
    · rw [if_pos h4]; exact gd_le (it_le _ _ _) (by decide)
    rw [if_neg h4]
    refine gd_le ?_ (by decide)
    show (if (σ.1 121 (fsJ w u (c32 v))).toInt = 0 then 2 else 0) ≤ 3
    split <;> omega
  · show (ngJ x).1 ≤ 1
    unfold ngJ; split
    · exact Nat.zero_le 1
    · exact Nat.le_refl 1
  · show 2 ≤ (gd (fsJ w u (c32 f)) (mgJ σ (fsJ w u (c32 f)) v)).1 ∧ (gd (fsJ w u (c32 f)) (mgJ σ (fsJ w u (c32 f)) v)).1 ≤ 5
    unfold gd; split
    · exact mg_25 _ _ _
    · exact ⟨by show 2 ≤ 2; decide, by show 2 ≤ 5; decide⟩
  · show (if fsJ w u (c32 f) < 480 ∧ ¬ (σ.1 121 (fsJ w u (c32 f))).toInt = 0 then ((4, 0) : EntJ) else (5, 0)).1 = 4 ∨ (if fsJ w u (c32 f) < 480 ∧ ¬ (σ.1 121 (fsJ w u (c32 f))).toInt = 0 then ((4, 0) : EntJ) else (5, 0)).1 = 5
    split
    · exact Or.inl rfl
    · exact Or.inr rfl
/-- what persons and things have is the same on both sides -/
noncomputable def FeS (σ : zS) : Prop := (∀ f, f < 480 → σ.1 7 f = σ.1 121 f ∧ σ.1 8 f = σ.1 122 f ∧ 0 ≤ (σ.1 8 f).toInt ∧ (σ.1 8 f).toInt ≤ 20) ∧ ∀ i, i < 9600 → σ.2 9 i = σ.2 123 i
theorem has_eq {σ : zS} (h : FeS σ) {f : Nat} (hf : f < 480) {v : Int} : ∀ {n : Nat}, n ≤ 20 → hasC σ f v n = hasJ σ f v n
  | 0, _ => rfl
  | n + 1, hn => by
    unfold hasC hasJ
    rw [has_eq h hf (by omega), h.2 (20 * f + n) (by omega)]
theorem it_eq {σ : zS} (h : FeS σ) {f : Nat} (hf : f < 480) (i : Int) : itC σ f i = itJ σ f i := by
  obtain ⟨h1, h2, h3, h4⟩ := h.1 f hf
  unfold itC itJ
  rw [h1, h2]
  by_cases h0 : (σ.1 121 f).toInt = 0
  · rw [if_pos h0, if_pos h0]
  · rw [if_neg h0, if_neg h0]
    by_cases hi : 0 ≤ i ∧ i ≤ (σ.1 122 f).toInt - 1
    · rw [h.2 (20 * f + i.toNat) (by rw [h2] at h4; omega)]
    · rw [if_pos hi, if_pos hi]
theorem pa_eq {σ : zS} (h : FeS σ) {f : Nat} (hf : f < 480) (v : Int) : paC σ f v = paJ σ f v := by unfold paC paJ; rw [it_eq h hf]
theorem mg_eq {σ : zS} (h : FeS σ) {f : Nat} (hf : f < 480) (v : Int) : mgC σ f v = mgJ σ f v := by
  obtain ⟨h1, h2, h3, h4⟩ := h.1 f hf
  unfold mgC mgJ
  rw [h1, h2, has_eq h hf (by rw [h2] at h4; omega)]
theorem gd_eq {f : Nat} {x y : EntJ} (h : f < 480 → x = y) : gd f x = gd f y := by
  unfold gd
  by_cases hf : f < 480
  · rw [if_pos hf, if_pos hf, h hf]
  · rw [if_neg hf, if_neg hf]
noncomputable def evMk (ld : Nat → Int → EntJ) (pa mg : Int → Int → EntJ) (kn : Int → EntJ) : EvJ := (ld, (pa, (ngJ, (arJ, (fun c => cpJ (c32 c), (mg, kn))))))
theorem mk_eq {a a' : Nat → Int → EntJ} {b b' c c' : Int → Int → EntJ} {d d' : Int → EntJ} (h1 : a = a') (h2 : b = b') (h3 : c = c') (h4 : d = d') : evMk a b c d = evMk a' b' c' d' := by rw [h1, h2, h3, h4]
theorem evc_mk (σ : zS) (w u t : Int) : EvC σ w u t = evMk (fun c v => if c < 2 then (c, v) else if c = 2 then (0, t) else if c = 3 then (0, (σ.1 27 7).toInt - t) else if c = 4 then gd (fsJ w u (c32 v)) (itC σ (fsJ w u (c32 v)) 0) else gd (fsJ w u (c32 v)) ((if (σ.1 7 (fsJ w u (c32 v))).toInt = 0 then 2 else 0), (σ.1 8 (fsJ w u (c32 v))).toInt)) (fun f v => gd (fsJ w u (c32 f)) (paC σ (fsJ w u (c32 f)) v)) (fun f v => gd (fsJ w u (c32 f)) (mgC σ (fsJ w u (c32 f)) v)) (fun f => if fsJ w u (c32 f) < 480 ∧ ¬ (σ.1 7 (fsJ w u (c32 f))).toInt = 0 then (4, 0) else (5, 0)) := rfl
theorem evm_mk (σ : zS) (w u t : Int) : EvM σ w u t = evMk (fun c v => if c < 2 then (c, v) else if c = 2 then (0, t) else if c = 3 then (0, (σ.1 110 0).toInt - t) else if c = 4 then gd (fsJ w u (c32 v)) (itJ σ (fsJ w u (c32 v)) 0) else gd (fsJ w u (c32 v)) ((if (σ.1 121 (fsJ w u (c32 v))).toInt = 0 then 2 else 0), (σ.1 122 (fsJ w u (c32 v))).toInt)) (fun f v => gd (fsJ w u (c32 f)) (paJ σ (fsJ w u (c32 f)) v)) (fun f v => gd (fsJ w u (c32 f)) (mgJ σ (fsJ w u (c32 f)) v)) (fun f => if fsJ w u (c32 f) < 480 ∧ ¬ (σ.1 121 (fsJ w u (c32 f))).toInt = 0 then (4, 0) else (5, 0)) := rfl
theorem ev_eq {σ : zS} (h : FeS σ) (hn : σ.1 27 7 = σ.1 110 0) (w u t : Int) : EvC σ w u t = EvM σ w u t := by
  rw [evc_mk, evm_mk]
  refine mk_eq (funext fun c => funext fun v => ?_) (funext fun f => funext fun v => gd_eq fun q => pa_eq h q v) (funext fun f => funext fun v => gd_eq fun q => mg_eq h q v) (funext fun f => ?_)
  · have e4 : gd (fsJ w u (c32 v)) (itC σ (fsJ w u (c32 v)) 0) = gd (fsJ w u (c32 v)) (itJ σ (fsJ w u (c32 v)) 0) := gd_eq fun q => it_eq h q 0
    have e6 : gd (fsJ w u (c32 v)) ((if (σ.1 7 (fsJ w u (c32 v))).toInt = 0 then 2 else 0), (σ.1 8 (fsJ w u (c32 v))).toInt) = gd (fsJ w u (c32 v)) ((if (σ.1 121 (fsJ w u (c32 v))).toInt = 0 then 2 else 0), (σ.1 122 (fsJ w u (c32 v))).toInt) := gd_eq fun q => by rw [(h.1 _ q).1, (h.1 _ q).2.1]
    rw [hn, e4, e6]
  · by_cases q : fsJ w u (c32 f) < 480
    · rw [(h.1 _ q).1]
    · rw [if_neg (fun z => q z.1), if_neg (fun z => q z.1)]
/-- what a condition comes to on both sides -/
theorem both_ev {σ : zS} {a b f j : Nat} {w u t : Int} (hS : SmT (RC9 σ) a b (cdL σ f j) 43) (hE : EvC σ w u t = EvM σ w u t) : ∃ x : EntJ, (2 ≤ x.1 ∧ x.1 ≤ 5) ∧ mrun9 (EvM σ w u t) (cdL σ f j) [] = [x] ∧ ∃ m, cr9 (EvC σ w u t) (RC9 σ) b m a [] [] = some (if x.1 = 3 then x else (x.1, if x.1 = 2 then 0 else x.2)) := by
  obtain ⟨_, h⟩ := hS
  obtain ⟨x, h1, h2, h3⟩ := h (EvM σ w u t) (evm_ok σ w u t)
  refine ⟨x, h1, h2 [], ?_⟩
  rw [hE]
  obtain ⟨p1, p2⟩ := h3 b [] (Nat.le_refl b) ⟨by decide, by decide⟩
  by_cases hx : x.1 = 3
  · rw [if_pos hx]; exact p1 hx
  · rw [if_neg hx]
    refine p2 hx _ ⟨1, ?_⟩
    unfold cr9
    rw [if_neg (Nat.lt_irrefl b)]
/-! ===== what a rule says, in the class ===== -/
/-- bit n of x -/
noncomputable abbrev btC (x n : Int32) : Prop := ((x >>> (n &&& 31)) &&& 1) = 1
/-- x or what it lies in is o (n steps at most) -/
noncomputable def unC (σ : zS) : Nat → Int → Int → Prop
  | 0, _, _ => False
  | n + 1, x, o => x ≠ -4 ∧ (x = o ∨ ((σ.1 13 x.toNat).toInt = 0 ∧ unC σ n (σ.1 11 x.toNat).toInt o))
/-- how deep -/
noncomputable def dpC (σ : zS) : Nat → Int → Nat
  | 0, _ => 0
  | n + 1, x => if x = -4 then 0 else dpC σ n (σ.1 11 x.toNat).toInt + 1
/-- places of things are things or none -/
noncomputable def PlC (σ : zS) : Prop := ∀ x, x < 40 → (σ.1 11 x).toInt = -4 ∨ (0 ≤ (σ.1 11 x).toInt ∧ (σ.1 11 x).toInt ≤ 39)
theorem un_4 {σ : zS} {n : Nat} {x o : Int} (h : x = -4) : ¬ unC σ n x o := by
  cases n with
  | zero => exact fun q => q
  | succ n => exact fun q => q.1 h
theorem un_y {σ : zS} {n : Nat} {x o : Int} (h : x ≠ -4) (e : x = o) : unC σ (n + 1) x o := ⟨h, Or.inl e⟩
theorem un_c {σ : zS} {n : Nat} {x o : Int} {k : Nat} (hk : x = (k : Int)) (e : x ≠ o) (hc : (σ.1 13 k).toInt ≠ 0) : ¬ unC σ (n + 1) x o := by
  intro q
  rcases q.2 with q | q
  · exact e q
  · rw [hk] at q; exact hc q.1
theorem un_s {σ : zS} {n : Nat} {x o : Int} {k : Nat} (hk : x = (k : Int)) (e : x ≠ o) (hc : (σ.1 13 k).toInt = 0) : unC σ (n + 1) x o ↔ unC σ n (σ.1 11 k).toInt o := by
  subst hk
  constructor
  · intro q
    rcases q.2 with q | q
    · exact absurd q e
    · exact q.2
  · intro q; exact ⟨by omega, Or.inr ⟨hc, q⟩⟩
theorem dp_s {σ : zS} {n : Nat} {x : Int} {k : Nat} (hk : x = (k : Int)) : dpC σ (n + 1) x = dpC σ n (σ.1 11 k).toInt + 1 := by
  subst hk
  show (if ((k : Nat) : Int) = -4 then 0 else dpC σ n (σ.1 11 ((k : Nat) : Int).toNat).toInt + 1) = _
  rw [if_neg (by omega)]; rfl
theorem dp_4 {σ : zS} {n : Nat} {x : Int} (h : x = -4) : dpC σ n x = 0 := by
  cases n with
  | zero => rfl
  | succ n => show (if x = -4 then 0 else _) = 0; rw [if_pos h]
theorem dp_le {σ : zS} : ∀ {n : Nat} {x : Int}, dpC σ n x ≤ n
  | 0, _ => Nat.le_refl 0
  | n + 1, x => by
    show (if x = -4 then 0 else dpC σ n (σ.1 11 x.toNat).toInt + 1) ≤ n + 1
    split
    · omega
    · have := dp_le (σ := σ) (n := n) (x := (σ.1 11 x.toNat).toInt); omega
/-- a rule's columns, at a: effect, who, its number, act, thing, its number, code, its end, duty -/
noncomputable abbrev ruC (σ : zS) (a c : Nat) : Int := (σ.1 20 (a + c)).toInt
noncomputable def fwC (σ : zS) (a : Nat) : Prop := (ruC σ a 1 = 3 ∧ ruC σ a 2 = (σ.1 27 3).toInt) ∨ (ruC σ a 1 = 2 ∧ (σ.1 12 (σ.1 27 5).toInt.toNat).toInt = (σ.1 27 3).toInt) ∨ (ruC σ a 1 = 1 ∧ btC (σ.1 27 4) (σ.1 20 (a + 2))) ∨ ¬ (ruC σ a 1 = 1 ∨ ruC σ a 1 = 2 ∨ ruC σ a 1 = 3)
noncomputable def faC (σ : zS) (a : Nat) (act : Int32) : Prop := ruC σ a 3 = 6 ∨ (ruC σ a 3 ≠ 6 ∧ ((ruC σ a 0 = 0 ∧ btC (σ.1 16 act.toInt.toNat) (σ.1 20 (a + 3))) ∨ (ruC σ a 0 ≠ 0 ∧ btC (σ.1 16 (ruC σ a 3).toNat) act)))
noncomputable def ftC (σ : zS) (a : Nat) : Prop := (ruC σ a 4 = 2 ∧ ruC σ a 5 = (σ.1 27 5).toInt) ∨ (ruC σ a 4 = 1 ∧ unC σ 40 (σ.1 27 5).toInt (ruC σ a 5)) ∨ ¬ (ruC σ a 4 = 1 ∨ ruC σ a 4 = 2)
/-- what is known of the rule -/
noncomputable def RuB (σ : zS) (a : Nat) : Prop := a + 8 < 2160 ∧ (0 ≤ ruC σ a 3 ∧ ruC σ a 3 ≤ 6) ∧ (0 ≤ (σ.1 27 5).toInt ∧ (σ.1 27 5).toInt ≤ 39)
theorem at_c {x : Int32} {a c : Nat} {v : Int32} (h : x.toInt = (a : Int)) (hv : v.toInt = (c : Int)) (hb : a + c < 100000) : (x + v).toInt = ((a + c : Nat) : Int) := by rw [i32_add (by omega), h, hv]; rfl
theorem p3_nar {v : Int32} {c : Prop} (h : (v = 1 ∧ c) ∨ (v = 0 ∧ ¬ c)) : narrow .boolean (.int v) = .int v := by
  rcases h with ⟨rfl, _⟩ | ⟨rfl, _⟩ <;> decide
/-! ===== what a rule says, and how much it weighs ===== -/
theorem w_getsR {E : xV} {Y : xY} {pc pc' m idx : Nat} {lv : List (Nat × Value)} {st : List Value} {σ : zS} {K : zKt} (hm : Yf m = Y) (hx : idx < 4096) (hl : t_lib.get (G0.own m * 4096 + idx) = some 3) (d : decode Y.2.1 pc = .ok (.getstatic idx, 3) ∧ pc + 3 = pc') (k : Wz E Y pc' lv (.ref 3001 :: st) σ K) : Wz E Y pc lv st σ K := by
  subst hm
  obtain ⟨_, h3, _⟩ := G0_ok.fz m idx 3 hx hl
  exact z_getsR (h3 rfl) d k
/-- no's rank is 3, then FAIL, maybe, yes -/
noncomputable def rkC (x : Int) : Int := if x = 0 then 3 else if x = 1 then 0 else if x = 2 then 1 else 2
theorem rnk_at {x : Int32} {n : Nat} (h : x.toInt = (n : Int)) (hn : n < 4) : (RNK.getD n 0).toInt = rkC x.toInt := by
  rw [h]
  have key : ∀ n, n < 4 → (RNK.getD n 0).toInt = rkC (n : Int) := by decide
  exact key n hn
theorem w_rald {E : xV} {Y : xY} {pc pc' n : Nat} {lv : List (Nat × Value)} {st : List Value} {σ : zS} {K : zKt} {x : Int32} (hx : x.toInt = (n : Int)) (hn : n < 4) (d : decode Y.2.1 pc = .ok (.iaload, 1) ∧ pc + 1 = pc') (k : Wz E Y pc' lv (.int (RNK.getD n 0) :: st) σ K) : Wz E Y pc lv (.int x :: .ref 3001 :: st) σ K :=
  z_rald (in_a hx hn) d (by rw [cl_a hx]; exact k)
/-- what is said by a condition's outcome -/
noncomputable def spV (eff : Int) (r : EntJ) : Int := if r.1 = 3 then 3 else if r.1 = 4 ∨ (r.1 = 2 ∧ eff ≠ 1) then eff else -4
noncomputable def FtA (σ : zS) (a : Nat) (act : Int32) : Prop := fwC σ a ∧ faC σ a act ∧ ftC σ a
noncomputable def SpR (σ τ : zS) (a : Nat) (act : Int32) (r : EntJ) (o : Int32) : Prop := (¬ FtA σ a act ∧ o.toInt = -4 ∧ τ = σ) ∨ (FtA σ a act ∧ o.toInt = spV (ruC σ a 0) r ∧ ∃ V T, CsJ σ τ V T (if r.1 = 3 then r.2 else 0))
theorem sp_no {σ : zS} {a : Nat} {act : Int32} {r : EntJ} (h : ¬ FtA σ a act) : SpR σ σ a act r (-4) := Or.inl ⟨h, by decide, rfl⟩
theorem sp_yes {σ τ : zS} {a : Nat} {act : Int32} {r : EntJ} {v o : Int32} (h : FtA σ a act) (h25 : 2 ≤ r.1 ∧ r.1 ≤ 5) (ht : TrR σ τ r v) (ho : (v.toInt = 3 ∧ o.toInt = 3) ∨ (v.toInt ≠ 3 ∧ (v.toInt = 1 ∨ (v.toInt = 2 ∧ ruC σ a 0 ≠ 1)) ∧ o.toInt = ruC σ a 0) ∨ (v.toInt ≠ 3 ∧ ¬ (v.toInt = 1 ∨ (v.toInt = 2 ∧ ruC σ a 0 ≠ 1)) ∧ o.toInt = -4)) : SpR σ τ a act r o := by
  refine Or.inr ⟨h, ?_, ?_⟩
  · unfold spV
    rcases ht with ⟨h3, hv, _⟩ | ⟨h3, hv, _⟩
    · rw [if_pos h3]
      rcases ho with q | q | q
      · exact q.2
      · exact absurd hv q.1
      · exact absurd hv q.1
    · rw [if_neg h3]
      have e1 := tc_1 (x := r)
      have e2 := tc_2 (x := r) (by omega)
      have e0 := tc_0 (x := r)
      by_cases q : r.1 = 4 ∨ (r.1 = 2 ∧ ruC σ a 0 ≠ 1)
      · rw [if_pos q]
        rcases ho with z | z | z
        · omega
        · exact z.2.2
        · omega
      · rw [if_neg q]
        rcases ho with z | z | z
        · omega
        · omega
        · exact z.2.2
  · rcases ht with ⟨h3, _, V, T, hc⟩ | ⟨h3, _, V, T, hc⟩
    · exact ⟨V, T, by rw [if_pos h3]; exact hc⟩
    · exact ⟨V, T, by rw [if_neg h3]; exact hc⟩
/-- how much a rule weighs -/
noncomputable def wtC (σ : zS) (way : Int) (a : Nat) (said : Int) : Int := if way = 0 then 0 else (if way = 3 then ruC σ a 1 else if way = 2 ∧ ruC σ a 4 ≠ 0 then 2 * ((dpC σ 40 (σ.1 11 (ruC σ a 5).toNat).toInt : Nat) : Int) + ruC σ a 4 else 0) * 4 + rkC said
theorem wt_0 {σ : zS} {way : Int} {a : Nat} {said : Int} (h : way = 0) : (0 : Int32).toInt = wtC σ way a said := by unfold wtC; rw [if_pos h]; decide
theorem wt_put {σ : zS} {way : Int} {a : Nat} {said : Int} {s r : Int32} {z : Int} (h : way ≠ 0) (hs : s.toInt = z) (hz : 0 ≤ z ∧ z ≤ 1000) (hz2 : z = if way = 3 then ruC σ a 1 else if way = 2 ∧ ruC σ a 4 ≠ 0 then 2 * ((dpC σ 40 (σ.1 11 (ruC σ a 5).toNat).toInt : Nat) : Int) + ruC σ a 4 else 0) (hr : r.toInt = rkC said) : (s * 4 + r).toInt = wtC σ way a said := by
  have e : (4 : Int32).toInt = 4 := by decide
  have e1 : (s * 4).toInt = z * 4 := by rw [Int32.toInt_mul, e, hs, Int.bmod_eq_of_le (by omega) (by omega)]
  have e2 : 0 ≤ rkC said ∧ rkC said ≤ 3 := by
    unfold rkC
    by_cases h0 : said = 0
    · rw [if_pos h0]; omega
    · rw [if_neg h0]
      by_cases h1 : said = 1
      · rw [if_pos h1]; omega
      · rw [if_neg h1]; split <;> omega
  unfold wtC
  rw [if_neg h, ← hz2, i32_add (by rw [e1, hr]; omega), e1, hr]

end
