section
section
/-! ===== one rule: the same on both sides (needs K82, K93, J83) ===== -/
section L38
variable {σ : zS} {X : Txt} {w : Wld}
theorem em_cdL {τ : zS} : ∀ {L : List ItJ} {f0 : Nat}, EmL τ f0 L → cdL τ f0 L.length = L
  | [], _, _ => rfl
  | x :: L, f0, e => by
    have a : (τ.1 141 f0).toInt = (x.1 : Int) := (e 0 x rfl).1.1
    have b : (τ.2 142 f0).toInt = x.2 := (e 0 x rfl).1.2
    show ((τ.1 141 f0).toInt.toNat, (τ.2 142 f0).toInt) :: cdL τ (f0 + 1) L.length = x :: L
    rw [a, b, em_cdL e.tl]
    rfl
theorem em_CoK {τ : zS} {f0 : Nat} {L : List ItJ} (e : EmL τ f0 L) (hq : qrL L 0 = some 1) (hb : f0 + L.length ≤ 10400) : CoK τ f0 L.length 0 := by
  refine ⟨by rw [qr_run e, hq]; exact Option.some_ne_none _, fun i h1 h2 => ?_⟩
  have hi : i - f0 < L.length := by omega
  have g : L[i - f0]? = some L[i - f0] := List.getElem?_eq_getElem hi
  obtain ⟨⟨a1, a2⟩, a3, a4⟩ := e (i - f0) _ g
  rw [show f0 + (i - f0) = i by omega] at a1 a2
  exact ⟨by omega, ⟨by omega, by omega⟩, fun z => by rw [a2]; exact a4 (by omega)⟩
theorem ru_same {A p z z' a b n f0 f1 : Nat} (h : RuL σ X w A p z a b) (h' : RuM σ X w n p z' f0 f1) : SmR σ A n ∧ (σ.1 20 (A + 8)).toInt = (σ.1 138 n).toInt ∧ z = z' ∧ ((b = a ∧ f1 = f0) ∨ ∃ L, SmT (RC9 σ) a b L 43 ∧ f1 = f0 + L.length ∧ EmL σ f0 L ∧ qrL L 0 = some 1) := by
  obtain ⟨p6, q, ⟨⟨_, e2⟩, o, ⟨_, t2⟩, th⟩, co, du, _, _⟩ := h
  obtain ⟨p6', q', ⟨⟨_, e2'⟩, o', ⟨_, t2'⟩, th'⟩, co', du', _, _⟩ := h'
  obtain ⟨hp, hk, hv⟩ := Th_same th th'
  obtain ⟨ok, ov⟩ := o.det o'
  subst hp
  have sm : SmR σ A n := ⟨(e2.trans e2'.symm : (σ.1 20 (A + 0)).toInt = (σ.1 132 n).toInt), ok, ov, (t2.trans t2'.symm : (σ.1 20 (A + 3)).toInt = (σ.1 135 n).toInt), hk, hv⟩
  rcases co with ⟨c1, c2, c3⟩ | ⟨c1, c2, c3⟩
  · rcases co' with ⟨_, d2, deep, kd, pa, cd, f, x, E, d3, d4, d5, d6⟩ | ⟨d1, _⟩
    · have hq := con_end c3 d2
      subst hq
      obtain ⟨dv, dz⟩ := du.det du'
      refine ⟨sm, dv, dz, Or.inr ?_⟩
      obtain ⟨N, c2⟩ := c2
      obtain ⟨L, x', E', pa', g1, _, g3, g4⟩ := emit_ok c2
      have g5 := ToE.one_at g4 d3 rfl
      have g6 : E' = E := congrArg (fun A : AuE => A.2.2.2.2.2) g5
      have g7 : x' = x := congrArg (fun A : AuE => A.2.2.2.2.1.1.2.2.2.2) g5
      rw [g6, g7] at g3
      exact ⟨L, g1, by rw [← g3]; exact d4, by rw [← g3]; exact d5, by rw [← g3]; exact d6⟩
    · exact absurd c1 d1
  · rcases co' with ⟨d1, _⟩ | ⟨_, d2, d3⟩
    · exact absurd d1 c1
    · subst c2
      subst d2
      obtain ⟨dv, dz⟩ := du.det du'
      exact ⟨sm, dv, dz, Or.inl ⟨c3, d3⟩⟩
end L38
/-! ===== N00: what both judges read ===== -/
noncomputable def FrXn (σ τ : zS) : Prop := (∀ k j, 5 ≤ k → k < 27 → τ.1 k j = σ.1 k j) ∧ (∀ j, 3 ≤ j → j ≤ 7 → τ.1 27 j = σ.1 27 j) ∧ ∀ k j, 5 ≤ k → k < 27 → τ.2 k j = σ.2 k j
theorem FrXn.e {σ τ : zS} (h : FrXn σ τ) {k : Nat} (hk : 5 ≤ k ∧ k < 27) : τ.1 k = σ.1 k := funext fun j => h.1 k j hk.1 hk.2
theorem FrXn.f {σ τ : zS} (h : FrXn σ τ) {j : Nat} (hj : 3 ≤ j ∧ j ≤ 7) : τ.1 27 j = σ.1 27 j := h.2.1 j hj.1 hj.2
theorem FrXn.l {σ τ : zS} (h : FrXn σ τ) {k : Nat} (hk : 5 ≤ k ∧ k < 27) : τ.2 k = σ.2 k := funext fun j => h.2.2 k j hk.1 hk.2
noncomputable def FrY (σ τ : zS) : Prop := (∀ k j, 121 ≤ k → k < 151 → τ.1 k j = σ.1 k j) ∧ τ.1 110 0 = σ.1 110 0 ∧ ∀ k j, 121 ≤ k → k < 151 → τ.2 k j = σ.2 k j
theorem FrY.e {σ τ : zS} (h : FrY σ τ) {k : Nat} (hk : 121 ≤ k ∧ k < 151) : τ.1 k = σ.1 k := funext fun j => h.1 k j hk.1 hk.2
theorem FrY.f {σ τ : zS} (h : FrY σ τ) {j : Nat} (hj : j = 0) : τ.1 110 j = σ.1 110 j := by subst hj; exact h.2.1
theorem FrY.l {σ τ : zS} (h : FrY σ τ) {k : Nat} (hk : 121 ≤ k ∧ k < 151) : τ.2 k = σ.2 k := funext fun j => h.2.2 k j hk.1 hk.2
theorem un_cx {σ τ : zS} (h : FrXn σ τ) : ∀ {n : Nat} {x o : Int}, unC τ n x o = unC σ n x o
  | 0, _, _ => rfl
  | n + 1, x, o => by
    show (x ≠ -4 ∧ (x = o ∨ ((τ.1 13 x.toNat).toInt = 0 ∧ unC τ n (τ.1 11 x.toNat).toInt o))) = (x ≠ -4 ∧ (x = o ∨ ((σ.1 13 x.toNat).toInt = 0 ∧ unC σ n (σ.1 11 x.toNat).toInt o)))
    rw [h.e (k := 13) (by decide), h.e (k := 11) (by decide), un_cx h]
theorem dp_cx {σ τ : zS} (h : FrXn σ τ) : ∀ {n : Nat} {x : Int}, dpC τ n x = dpC σ n x
  | 0, _ => rfl
  | n + 1, x => by
    show (if x = -4 then 0 else dpC τ n (τ.1 11 x.toNat).toInt + 1) = (if x = -4 then 0 else dpC σ n (σ.1 11 x.toNat).toInt + 1)
    rw [h.e (k := 11) (by decide), dp_cx h]
theorem ru_cx {σ τ : zS} (h : FrXn σ τ) {a c : Nat} : ruC τ a c = ruC σ a c := by show (τ.1 20 (a + c)).toInt = (σ.1 20 (a + c)).toInt; rw [h.e (k := 20) (by decide)]
theorem ft_cx {σ τ : zS} (h : FrXn σ τ) {a : Nat} {act : Int32} : FtA τ a act = FtA σ a act := by
  unfold FtA fwC faC ftC ruC
  rw [h.e (k := 20) (by decide), h.e (k := 12) (by decide), h.e (k := 16) (by decide), h.f (j := 3) (by decide), h.f (j := 4) (by decide), h.f (j := 5) (by decide), un_cx h]
theorem rb_cx {σ τ : zS} (h : FrXn σ τ) {a : Nat} : RuB τ a = RuB σ a := by
  unfold RuB ruC
  rw [h.e (k := 20) (by decide), h.f (j := 5) (by decide)]
theorem pl_cx {σ τ : zS} (h : FrXn σ τ) : PlC τ = PlC σ := by
  unfold PlC
  rw [h.e (k := 11) (by decide)]
theorem wt_cx {σ τ : zS} (h : FrXn σ τ) {way : Int} {a : Nat} {sd : Int} : wtC τ way a sd = wtC σ way a sd := by
  unfold wtC ruC
  rw [h.e (k := 20) (by decide), h.e (k := 11) (by decide), dp_cx h]
theorem co_cx {σ τ : zS} (h : FrXn σ τ) {e : Nat} : CoC τ e = CoC σ e := by
  unfold CoC
  rw [h.e (k := 21) (by decide), h.l (k := 22) (by decide)]
theorem rc_cx {σ τ : zS} (h : FrXn σ τ) : RC9 τ = RC9 σ := by
  unfold RC9
  rw [h.e (k := 21) (by decide), h.l (k := 22) (by decide)]
theorem it_cx {σ τ : zS} (h : FrXn σ τ) {f : Nat} {i : Int} : itC τ f i = itC σ f i := by
  unfold itC
  rw [h.e (k := 7) (by decide), h.e (k := 8) (by decide), h.l (k := 9) (by decide)]
theorem has_cx {σ τ : zS} (h : FrXn σ τ) {f : Nat} {v : Int} : ∀ {n : Nat}, hasC τ f v n = hasC σ f v n
  | 0 => rfl
  | n + 1 => by
    show (hasC τ f v n || decide ((τ.2 9 (20 * f + n)).toInt = v)) = (hasC σ f v n || decide ((σ.2 9 (20 * f + n)).toInt = v))
    rw [has_cx h, h.l (k := 9) (by decide)]
theorem ec_cx {σ τ : zS} (h : FrXn σ τ) : ECV τ = ECV σ := by
  show EvC τ (τ.1 27 3).toInt (τ.1 27 5).toInt (τ.1 27 6).toInt = EvC σ (σ.1 27 3).toInt (σ.1 27 5).toInt (σ.1 27 6).toInt
  rw [h.f (j := 3) (by decide), h.f (j := 5) (by decide), h.f (j := 6) (by decide), evc_mk, evc_mk]
  refine mk_eq (funext fun c => funext fun v => ?_) (funext fun f => funext fun v => ?_) (funext fun f => funext fun v => ?_) (funext fun f => ?_)
  · rw [h.f (j := 7) (by decide), it_cx h, h.e (k := 7) (by decide), h.e (k := 8) (by decide)]
  · unfold paC; rw [it_cx h]
  · unfold mgC; rw [h.e (k := 7) (by decide), h.e (k := 8) (by decide), has_cx h]
  · rw [h.e (k := 7) (by decide)]
theorem um_cx {σ τ : zS} (h : FrY σ τ) : ∀ {n : Nat} {x o : Int}, unM τ n x o = unM σ n x o
  | 0, _, _ => rfl
  | n + 1, x, o => by
    show (x ≠ -4 ∧ (x = o ∨ ((τ.1 127 x.toNat).toInt = 0 ∧ unM τ n (τ.1 125 x.toNat).toInt o))) = (x ≠ -4 ∧ (x = o ∨ ((σ.1 127 x.toNat).toInt = 0 ∧ unM σ n (σ.1 125 x.toNat).toInt o)))
    rw [h.e (k := 127) (by decide), h.e (k := 125) (by decide), um_cx h]
theorem dm_cx {σ τ : zS} (h : FrY σ τ) : ∀ {n : Nat} {x : Int}, dpM τ n x = dpM σ n x
  | 0, _ => rfl
  | n + 1, x => by
    show (if x = -4 then 0 else dpM τ n (τ.1 125 x.toNat).toInt + 1) = (if x = -4 then 0 else dpM σ n (σ.1 125 x.toNat).toInt + 1)
    rw [h.e (k := 125) (by decide), dm_cx h]
theorem tm_cx {σ τ : zS} (h : FrY σ τ) {rk : Nat → Nat} : TrM τ rk = TrM σ rk := by unfold TrM; rw [h.e (k := 125) (by decide)]
theorem rn_cx {σ τ : zS} (h : FrY σ τ) : ∀ {n a b : Nat}, rcN τ n a b = rcN σ n a b
  | 0, _, _ => rfl
  | n + 1, a, b => by
    show (rcN τ n a b ∨ ∃ c, c < 6 ∧ rcN τ n a c ∧ (τ.1 129 (6 * c + b)).toInt ≠ 0) = (rcN σ n a b ∨ ∃ c, c < 6 ∧ rcN σ n a c ∧ (σ.1 129 (6 * c + b)).toInt ≠ 0)
    rw [h.e (k := 129) (by decide), funext fun c => rn_cx h (n := n) (a := a) (b := c)]
theorem rh_cx {σ τ : zS} (h : FrY σ τ) {a b : Nat} : RcH τ a b = RcH σ a b := propext ⟨fun ⟨n, q⟩ => ⟨n, by rw [← rn_cx h]; exact q⟩, fun ⟨n, q⟩ => ⟨n, by rw [rn_cx h]; exact q⟩⟩
theorem rm_cx {σ τ : zS} (h : FrY σ τ) {k r : Nat} (hk : 121 ≤ k ∧ k < 151) : rM τ k r = rM σ k r := by show (τ.1 k r).toInt = (σ.1 k r).toInt; rw [h.e hk]
theorem pm_cx {σ τ : zS} (h : FrY σ τ) {way : Int} {r : Nat} {sd : Int} : plMq τ way r sd = plMq σ way r sd := by
  unfold plMq gpM rM
  rw [h.e (k := 133) (by decide), h.e (k := 136) (by decide), h.e (k := 137) (by decide), h.e (k := 125) (by decide), dm_cx h]
theorem ck_cx {σ τ : zS} (h : FrY σ τ) {n j : Nat} {i : Int} : CoK τ n j i = CoK σ n j i := by
  unfold CoK
  rw [h.e (k := 141) (by decide), h.l (k := 142) (by decide)]
theorem cl_cx {σ τ : zS} (h : FrY σ τ) : ∀ {n k : Nat}, cdL τ k n = cdL σ k n
  | 0, _ => rfl
  | n + 1, k => by
    show ((τ.1 141 k).toInt.toNat, (τ.2 142 k).toInt) :: cdL τ (k + 1) n = ((σ.1 141 k).toInt.toNat, (σ.2 142 k).toInt) :: cdL σ (k + 1) n
    rw [h.e (k := 141) (by decide), h.l (k := 142) (by decide), cl_cx h]
theorem ij_cx {σ τ : zS} (h : FrY σ τ) {f : Nat} {i : Int} : itJ τ f i = itJ σ f i := by
  unfold itJ
  rw [h.e (k := 121) (by decide), h.e (k := 122) (by decide), h.l (k := 123) (by decide)]
theorem hj_cx {σ τ : zS} (h : FrY σ τ) {f : Nat} {v : Int} : ∀ {n : Nat}, hasJ τ f v n = hasJ σ f v n
  | 0 => rfl
  | n + 1 => by
    show (hasJ τ f v n || decide ((τ.2 123 (20 * f + n)).toInt = v)) = (hasJ σ f v n || decide ((σ.2 123 (20 * f + n)).toInt = v))
    rw [hj_cx h, h.l (k := 123) (by decide)]
theorem em_cx {σ τ : zS} (h : FrY σ τ) {w u t : Int} : EvM τ w u t = EvM σ w u t := by
  rw [evm_mk, evm_mk]
  refine mk_eq (funext fun c => funext fun v => ?_) (funext fun f => funext fun v => ?_) (funext fun f => funext fun v => ?_) (funext fun f => ?_)
  · rw [h.f (j := 0) (by decide), ij_cx h, h.e (k := 121) (by decide), h.e (k := 122) (by decide)]
  · unfold paJ; rw [ij_cx h]
  · unfold mgJ; rw [h.e (k := 121) (by decide), h.e (k := 122) (by decide), hj_cx h]
  · rw [h.e (k := 121) (by decide)]
/-! ===== N01: fails are small ===== -/
noncomputable def flJ (x : EntJ) : Prop := x.1 = 3 → 0 ≤ x.2 ∧ x.2 ≤ 1000
noncomputable def EvJ.fl (E : EvJ) : Prop := (∀ c v, flJ (E.ld c v)) ∧ (∀ f v, flJ (E.pa f v)) ∧ (∀ x, flJ (E.ng x)) ∧ (∀ c x y, flJ (E.ar c x y)) ∧ (∀ c x y, flJ (E.cp c x y)) ∧ (∀ f v, flJ (E.mg f v)) ∧ ∀ f, flJ (E.kn f)
section N01
theorem fl_if {p : Prop} [Decidable p] {a b : EntJ} (h : p → flJ a) (h' : ¬ p → flJ b) : flJ (if p then a else b) := by
  by_cases q : p
  · rw [if_pos q]; exact h q
  · rw [if_neg q]; exact h' q
theorem fl_n {a : Nat} {b : Int} (h : a ≠ 3) : flJ (a, b) := fun q => absurd q h
theorem fl_3 {b : Int} (h : 0 ≤ b ∧ b ≤ 1000) : flJ (3, b) := fun _ => h
theorem fl_gd {f : Nat} {x : EntJ} (h : flJ x) : flJ (gd f x) := fl_if (fun _ => h) (fun _ => fl_n (by decide))
theorem fl_it {σ : zS} {f : Nat} {i : Int} : flJ (itJ σ f i) := by
  unfold itJ
  refine fl_if (fun _ => fl_n (by decide)) (fun _ => fl_if (fun _ => fl_3 (by decide)) (fun _ => fl_n ?_))
  by_cases q : (σ.1 121 f).toInt = 2
  · rw [if_pos q]; decide
  · rw [if_neg q]; decide
theorem evm_fl (σ : zS) (w u t : Int) : (EvM σ w u t).fl := by
  rw [evm_mk]
  refine ⟨fun c v => ?_, fun f v => fl_gd fl_it, fun x => ?_, fun c x y => ?_, fun c x y => ?_, fun f v => fl_gd ?_, fun f => ?_⟩
  · show flJ (if c < 2 then (c, v) else if c = 2 then (0, t) else if c = 3 then (0, (σ.1 110 0).toInt - t) else if c = 4 then gd (fsJ w u (c32 v)) (itJ σ (fsJ w u (c32 v)) 0) else gd (fsJ w u (c32 v)) ((if (σ.1 121 (fsJ w u (c32 v))).toInt = 0 then 2 else 0), (σ.1 122 (fsJ w u (c32 v))).toInt))
    refine fl_if (fun q => fl_n (by omega)) (fun _ => fl_if (fun _ => fl_n (by decide)) (fun _ => fl_if (fun _ => fl_n (by decide)) (fun _ => fl_if (fun _ => fl_gd fl_it) (fun _ => fl_gd (fl_n ?_)))))
    by_cases q : (σ.1 121 (fsJ w u (c32 v))).toInt = 0
    · rw [if_pos q]; decide
    · rw [if_neg q]; decide
  · show flJ (if x.1 = 0 then (0, (-(Int64.ofInt x.2)).toInt) else (1, ngF x.2))
    exact fl_if (fun _ => fl_n (by decide)) (fun _ => fl_n (by decide))
  · show flJ (if x.1 = 0 ∧ y.1 = 0 then (if 10 < c ∧ y.2 = 0 then (3, 5) else (0, (woJ c (Int64.ofInt x.2) (Int64.ofInt y.2)).toInt)) else (1, roJ c (rlJ x) (rlJ y)))
    exact fl_if (fun _ => fl_if (fun _ => fl_3 (by decide)) (fun _ => fl_n (by decide))) (fun _ => fl_n (by decide))
  · show flJ (cpJ (c32 c) x y)
    unfold cpJ
    exact fl_if (fun _ => fl_if (fun _ => fl_n (by decide)) (fun _ => fl_n (by decide))) (fun _ => fl_if (fun _ => fl_if (fun _ => fl_n (by decide)) (fun _ => fl_n (by decide))) (fun _ => fl_if (fun _ => fl_n (by decide)) (fun _ => fl_n (by decide))))
  · unfold mgJ
    exact fl_if (fun _ => fl_n (by decide)) (fun _ => fl_if (fun _ => fl_3 (by decide)) (fun _ => fl_if (fun _ => fl_n (by decide)) (fun _ => fl_n (by decide))))
  · show flJ (if fsJ w u (c32 f) < 480 ∧ ¬ (σ.1 121 (fsJ w u (c32 f))).toInt = 0 then (4, 0) else (5, 0))
    exact fl_if (fun _ => fl_n (by decide)) (fun _ => fl_n (by decide))
theorem one_fl {f : Int → EntJ} {x : EntJ} (h : ∀ v, flJ (f v)) (hx : flJ x) : flJ (onJ9 f x) := fl_if (fun _ => hx) (fun _ => fl_if (fun _ => fl_3 (by decide)) (fun _ => h _))
theorem two_fl {f : EntJ → EntJ → EntJ} {x y : EntJ} (h : ∀ x y, flJ (f x y)) (hx : flJ x) (hy : flJ y) : flJ (twJ9 f x y) := fl_if (fun _ => hx) (fun _ => fl_if (fun _ => hy) (fun _ => h _ _))
theorem jn_fl {w s : Nat} {x y : EntJ} (hx : flJ x) (hy : flJ y) : flJ (jn9 w s x y) := fl_if (fun _ => hx) (fun _ => fl_if (fun _ => fl_n (by decide)) (fun _ => hy))
theorem nt_fl {x : EntJ} (hx : flJ x) : flJ (nt9 x) := fl_if (fun _ => fl_n (by decide)) (fun _ => fl_if (fun _ => fl_n (by decide)) (fun _ => hx))
noncomputable abbrev flL (S : List EntJ) : Prop := ∀ x ∈ S, flJ x
theorem fl_c {x : EntJ} {S : List EntJ} (h : flJ x) (h' : flL S) : flL (x :: S) := List.forall_mem_cons.mpr ⟨h, h'⟩
theorem fl_0 : flL [] := fun x hx => (by cases hx)
noncomputable def m1J (f : EntJ → EntJ) : List EntJ → List EntJ
  | x :: S => f x :: S
  | [] => []
noncomputable def m2J (f : EntJ → EntJ → EntJ) : List EntJ → List EntJ
  | y :: x :: S => f x y :: S
  | _ => []
theorem fl_m1 {f : EntJ → EntJ} (hf : ∀ x, flJ x → flJ (f x)) : ∀ {S : List EntJ}, flL S → flL (m1J f S)
  | [], _ => fl_0
  | a :: S, h => fl_c (hf a (List.forall_mem_cons.mp h).1) (List.forall_mem_cons.mp h).2
theorem fl_m2 {f : EntJ → EntJ → EntJ} (hf : ∀ x y, flJ x → flJ y → flJ (f x y)) : ∀ {S : List EntJ}, flL S → flL (m2J f S)
  | [], _ => fl_0
  | [_], _ => fl_0
  | a :: b :: S, h => fl_c (hf b a (List.forall_mem_cons.mp (List.forall_mem_cons.mp h).2).1 (List.forall_mem_cons.mp h).1) (List.forall_mem_cons.mp (List.forall_mem_cons.mp h).2).2
theorem mst_fl {E : EvJ} (hE : E.fl) {c : Nat × Int} {S : List EntJ} (hS : flL S) : flL (mst9 E c S) := by
  obtain ⟨e1, e2, e3, e4, e5, e6, e7⟩ := hE
  unfold mst9
  have one : ∀ {f : EntJ → EntJ}, (∀ x, flJ x → flJ (f x)) → flL (m1J f S) := fun hf => fl_m1 hf hS
  have two : ∀ {f : EntJ → EntJ → EntJ}, (∀ x y, flJ x → flJ y → flJ (f x y)) → flL (m2J f S) := fun hf => fl_m2 hf hS
  by_cases h5 : c.1 = 5
  · rw [if_pos h5]; exact one (f := onJ9 (E.pa c.2)) (fun x hx => one_fl (fun v => e2 _ v) hx)
  rw [if_neg h5]
  by_cases h7 : c.1 = 7
  · rw [if_pos h7]; exact one (f := fun x => if 2 ≤ x.1 then x else E.ng x) (fun x hx => fl_if (fun _ => hx) (fun _ => e3 x))
  rw [if_neg h7]
  by_cases hl : c.1 < 7
  · rw [if_pos hl]; exact fl_c (e1 _ _) hS
  rw [if_neg hl]
  by_cases hm : c.1 < 13
  · rw [if_pos hm]; exact two (f := twJ9 (E.ar c.1)) (fun x y hx hy => two_fl (fun x y => e4 _ x y) hx hy)
  rw [if_neg hm]
  by_cases h13 : c.1 = 13
  · rw [if_pos h13]; exact two (f := twJ9 (E.cp c.2)) (fun x y hx hy => two_fl (fun x y => e5 _ x y) hx hy)
  rw [if_neg h13]
  by_cases h14 : c.1 = 14
  · rw [if_pos h14]; exact one (f := onJ9 (E.mg c.2)) (fun x hx => one_fl (fun v => e6 _ v) hx)
  rw [if_neg h14]
  by_cases h15 : c.1 = 15
  · rw [if_pos h15]; exact fl_c (e7 _) hS
  rw [if_neg h15]
  by_cases h16 : c.1 = 16
  · rw [if_pos h16]; exact one (f := nt9) (fun x hx => nt_fl hx)
  rw [if_neg h16]
  by_cases h17 : c.1 = 17
  · rw [if_pos h17]; exact two (f := jn9 4 5) (fun x y hx hy => jn_fl hx hy)
  rw [if_neg h17]; exact two (f := jn9 5 4) (fun x y hx hy => jn_fl hx hy)
theorem mrun_fl {E : EvJ} (hE : E.fl) : ∀ {L : List (Nat × Int)} {S : List EntJ}, flL S → flL (mrun9 E L S)
  | [], _, h => h
  | c :: L, S, h => mrun_fl hE (L := L) (mst_fl hE (c := c) h)
theorem mrun_fl1 {σ : zS} {w u t : Int} {L : List (Nat × Int)} {x : EntJ} (h : mrun9 (EvM σ w u t) L [] = [x]) : flJ x := by
  have := mrun_fl (evm_fl σ w u t) (L := L) fl_0
  rw [h] at this
  exact this x (List.mem_cons_self ..)
end N01
/-! ===== N02: a rule is the same on both sides, for good ===== -/
noncomputable def PoSa (σ : zS) (pol : Nat) : Prop := ∃ (X : Txt) (w : Wld) (c : Nat), RuA σ X w pol c (1200 * (pol + 1)) ∧ RuAM σ X w pol c (1300 * (pol + 1)) ∧ ((σ.1 19 pol).toInt = (c : Int) ∧ (σ.1 131 pol).toInt = (c : Int)) ∧ c ≤ 30 ∧ σ.1 18 pol = σ.1 130 pol
theorem PoSa.cg {σ τ : zS} {pol : Nat} (h : PoSa σ pol) (h20 : ∀ j, j < 9 * (30 * (pol + 1)) → τ.1 20 j = σ.1 20 j) (hR : ∀ i, i < 1200 * (pol + 1) → τ.1 21 i = σ.1 21 i ∧ τ.2 22 i = σ.2 22 i) (hM : ∀ k j, 132 ≤ k → k ≤ 140 → j < 30 * (pol + 1) → τ.1 k j = σ.1 k j) (hC : ∀ j, j < 1300 * (pol + 1) → τ.1 141 j = σ.1 141 j ∧ τ.2 142 j = σ.2 142 j) (h4 : τ.1 18 pol = σ.1 18 pol ∧ τ.1 19 pol = σ.1 19 pol ∧ τ.1 130 pol = σ.1 130 pol ∧ τ.1 131 pol = σ.1 131 pol) : PoSa τ pol := by
  obtain ⟨X, w, c, a, b, ⟨d, e⟩, f, g⟩ := h
  refine ⟨X, w, c, a.cg (fun j hj => h20 j (by omega)) (fun i hi => ?_), b.cg (fun k j q1 q2 q3 => hM k j q1 q2 (by omega)) (fun j hj => hC j hj), ⟨by rw [h4.2.1]; exact d, by rw [h4.2.2.2]; exact e⟩, f, by rw [h4.1, h4.2.2.1]; exact g⟩
  show ((σ.1 21 i).toInt.toNat, (σ.2 22 i).toInt) = ((τ.1 21 i).toInt.toNat, (τ.2 22 i).toInt)
  rw [(hR i hi).1, (hR i hi).2]
noncomputable def RuS (σ : zS) (A n : Nat) : Prop := SmR σ A n ∧ (σ.1 20 (A + 8)).toInt = (σ.1 138 n).toInt ∧ ∃ a b f0 j : Nat, ((σ.1 20 (A + 6)).toInt = (a : Int) ∧ (σ.1 20 (A + 7)).toInt = (b : Int)) ∧ (a ≤ b ∧ b ≤ 9600) ∧ ((σ.1 139 n).toInt = (f0 : Int) ∧ (σ.1 140 n).toInt = ((f0 + j : Nat) : Int)) ∧ (f0 + j ≤ 10400 ∧ j ≤ 1300) ∧ ((j = 0 ∧ b = a) ∨ (j ≠ 0 ∧ SmT (RC9 σ) a b (cdL σ f0 j) 43)) ∧ CoK σ f0 j 0
theorem PoSa.ru {σ : zS} {pol : Nat} (hp : pol < 8) (h : PoSa σ pol) : ∃ c : Nat, ((σ.1 19 pol).toInt = (c : Int) ∧ (σ.1 131 pol).toInt = (c : Int)) ∧ c ≤ 30 ∧ σ.1 18 pol = σ.1 130 pol ∧ ∀ i, i < c → RuS σ (raN pol i) (30 * pol + i) := by
  obtain ⟨X, w, c, hA, hM, hc, h30, hw⟩ := h
  refine ⟨c, hc, h30, hw, fun i hi => ?_⟩
  obtain ⟨p, z, a, b, a1, a2, a3, a4, a5, a6⟩ := hA i hi
  obtain ⟨p', z', f0, f1, b1, b2, b3, b4, b5, b6⟩ := hM i hi
  have e := PlQ9.det a1 b1
  subst e
  obtain ⟨s1, s2, s3, s4⟩ := ru_same a3 b3
  obtain ⟨_, _, _, _, _, ca, cb⟩ := a3
  obtain ⟨_, _, _, _, _, da, db⟩ := b3
  rcases s4 with ⟨e1, e2⟩ | ⟨L, e1, e2, e3, e4⟩
  · exact ⟨s1, s2, a, b, f0, 0, ⟨ca, cb⟩, ⟨a5, by omega⟩, ⟨da, by rw [db, e2]; rfl⟩, ⟨by omega, by omega⟩, Or.inl ⟨rfl, e1⟩, ⟨show some (0 : Int) ≠ none from Option.some_ne_none _, fun i h1 h2 => absurd h2 (by omega)⟩⟩
  · refine ⟨s1, s2, a, b, f0, L.length, ⟨ca, cb⟩, ⟨a5, by omega⟩, ⟨da, by rw [db, e2]⟩, ⟨by omega, by omega⟩, Or.inr ⟨fun q => ?_, by rw [em_cdL e3]; exact e1⟩, em_CoK e3 e4 (by omega)⟩
    have : L = [] := List.length_eq_zero_iff.mp q
    rw [this] at e4
    exact absurd e4 (by decide)
/-- bounds that hold all through -/
noncomputable def RuZ (σ : zS) (A n : Nat) : Prop := (0 ≤ ruC σ A 0 ∧ ruC σ A 0 ≤ 2) ∧ (0 ≤ ruC σ A 1 ∧ ruC σ A 1 ≤ 3) ∧ (0 ≤ ruC σ A 3 ∧ ruC σ A 3 ≤ 6) ∧ (0 ≤ ruC σ A 4 ∧ ruC σ A 4 ≤ 2) ∧ (0 ≤ ruC σ A 5 ∧ ruC σ A 5 ≤ 39) ∧ (rM σ 133 n = 1 → 0 ≤ rM σ 134 n ∧ rM σ 134 n ≤ 15)
section N02
variable {σ τ : zS} {A n un an : Nat} {way w u t : Int} {act : Int32}
/-- what the reference makes of a rule -/
theorem ra_M (hs : RuS σ A n) (hz : RuZ σ A n) (hF : FrY σ τ) : ∃ (x : EntJ) (g : Option (Int × Int × Int)), RaM τ way w u t un an n x g := by
  obtain ⟨⟨m0, m1, m2, m3, m4, m5⟩, _, a, b, f0, j, ⟨ca, cb⟩, ⟨ab, b9⟩, ⟨d1, d2⟩, ⟨fj, j13⟩, hc, ck⟩ := hs
  obtain ⟨z0, z1, z3, z4, z5, z6⟩ := hz
  have hx : ∃ x : EntJ, (j ≠ 0 → mrun9 (EvM σ w u t) (cdL σ f0 j) [] = [x]) ∧ flJ x := by
    rcases hc with ⟨q, _⟩ | ⟨q, s⟩
    · exact ⟨(4, 0), fun z => absurd q z, fl_n (by decide)⟩
    · obtain ⟨x, _, h2, _⟩ := s.2 (EvM σ w u t) (evm_ok σ w u t)
      exact ⟨x, fun _ => h2 [], mrun_fl1 (h2 [])⟩
  obtain ⟨x, h1, h2⟩ := hx
  have hg : ∃ g, RsM τ way w u un an n j x g := by
    rcases Classical.em (FtN τ w u un an n ∧ 0 ≤ sM (rM τ 132 n) j x) with q | q
    · exact ⟨_, Or.inr ⟨q, rfl⟩⟩
    · exact ⟨_, Or.inl ⟨q, rfl⟩⟩
  obtain ⟨g, hg⟩ := hg
  refine ⟨x, g, ⟨?_, ?_, ?_, ?_, ?_⟩, f0, j, ⟨?_, ?_, j13, ?_, fun _ q => ?_⟩, h2, hg⟩
  · rw [rm_cx hF (by decide), ← m0]; exact z0
  · rw [rm_cx hF (by decide), ← m1]; exact z1
  · rw [rm_cx hF (by decide), rm_cx hF (by decide)]; exact z6
  · rw [rm_cx hF (by decide), ← m3]; exact z3
  · intro q
    rw [rm_cx hF (by decide)] at q
    rw [rm_cx hF (by decide), ← m5 (by omega)]; exact z5
  · rw [hF.e (k := 139) (by decide)]; exact d1
  · rw [hF.e (k := 140) (by decide)]; exact d2
  · rw [ck_cx hF]; exact ck
  · rw [em_cx hF, cl_cx hF]; exact h1 q
/-- and what the class makes of it -/
theorem ra_C {x : EntJ} {g' : Option (Int × Int × Int)} (hA : A + 8 < 2160) (hs : RuS σ A n) (hz : RuZ σ A n) (h3 : (σ.1 27 3).toInt = w) (h5 : (σ.1 27 5).toInt = u) (h6 : (σ.1 27 6).toInt = t) (hE : EvC σ w u t = EvM σ w u t) (hco : CoC σ 9600) (hu : (σ.1 27 5).toInt = (un : Int)) (hu2 : un < 40) (ft : FtA σ A act ↔ FtN σ w u un an n) (hS : SmP σ) (hP : PlC σ) (hM : RaM σ way w u t un an n x g') : ∃ (y : EntJ) (g : Option (Int × Int × Int)), RaC σ way A act y g ∧ g' = shG (if way = 0 then 0 else -403) g := by
  obtain ⟨sm, _, a, b, f0, j, ⟨ca, cb⟩, ⟨ab, b9⟩, ⟨d1, d2⟩, ⟨fj, j13⟩, hc, ck⟩ := hs
  obtain ⟨z0, z1, z3, z4, z5, z6⟩ := hz
  obtain ⟨_, f0', j', ⟨e1, e2, _, _, e5⟩, _, hr⟩ := hM
  have hj : j' = j := by omega
  have hf : f0' = f0 := by omega
  subst hj
  subst hf
  have cb' : CoC σ b := ⟨b9, fun i hi => hco.2 i (by omega)⟩
  have ecv : ECV σ = EvC σ w u t := by show EvC σ (σ.1 27 3).toInt (σ.1 27 5).toInt (σ.1 27 6).toInt = _; rw [h3, h5, h6]
  have bb : RuB σ A := ⟨hA, z3, by omega⟩
  have pw := fun (sd : Int) (hd : 0 ≤ sd ∧ sd ≤ 3) => pw_eq (way := way) sm hS hP (fun _ => z5) hd
  by_cases fit : FtA σ A act
  · have hy : ∃ (m : Nat) (y : EntJ), cr9 (ECV σ) (RC9 σ) b m a [] [] = some y ∧ (2 ≤ y.1 ∧ y.1 ≤ 5) ∧ (j' = 0 → y.1 = 4) ∧ (j' ≠ 0 → y.1 = x.1 ∧ (x.1 = 3 → y.2 = x.2)) := by
      rcases hc with ⟨q, qb⟩ | ⟨q, s⟩
      · subst qb
        exact ⟨1, (4, 0), cr_none, by decide, fun _ => rfl, fun z => absurd q z⟩
      · obtain ⟨x', h1, h2, m, h7⟩ := yc_ev s hE
        rw [e5 (ft.mp fit) q] at h2
        have hx : x = x' := (List.cons.inj h2).1
        subst hx
        have yy := yc_1 x
        exact ⟨m, yC x, by rw [ecv]; exact h7, by omega, fun z => absurd z q, fun _ => yy⟩
    obtain ⟨m, y, y1, y2, y3, y4⟩ := hy
    have hg : ∃ g, RsC σ way A act y g := by
      rcases Classical.em (FtA σ A act ∧ spV (ruC σ A 0) y ≠ -4) with q | q
      · exact ⟨_, Or.inr ⟨q, rfl⟩⟩
      · exact ⟨_, Or.inl ⟨q, rfl⟩⟩
    obtain ⟨g, hg⟩ := hg
    exact ⟨y, g, ⟨bb, ⟨z0, z1, z4, fun _ => z5⟩, ⟨a, b, m, ca, cb, cb', fun _ => y1⟩, y2, hg⟩, g_eq ft sm.1 z0 y3 y4 pw hg hr⟩
  · refine ⟨(4, 0), none, ⟨bb, ⟨z0, z1, z4, fun _ => z5⟩, ⟨a, b, 0, ca, cb, cb', fun q => absurd q fit⟩, by decide, Or.inl ⟨fun q => fit q.1, rfl⟩⟩, ?_⟩
    rcases hr with q | q
    · rw [q.2]; rfl
    · exact absurd (ft.mpr q.1.1) fit
end N02
/-! ===== N03: the verdict ===== -/
noncomputable def vM (σ : zS) (n : Nat) (w t : Int) : zS := zIr σ 120 (fun j => @ite _ (InM σ n t (σ.1 110 0).toInt w (j : Int)) (Classical.propDecidable _) 1 0)
noncomputable def Vd (σ : zS) (n p : Nat) (w : Int) (un an : Nat) (t : Int) (s : JdS) : Prop := ∃ (N : Nat) (x : Nat → EntJ) (g : Nat → Option (Int × Int × Int)), (σ.1 131 p).toInt = (N : Int) ∧ N ≤ 30 ∧ s = jdF g N ∧ ∀ r, r < N → RaM (vM σ n w t) (σ.1 130 p).toInt w (un : Int) t un an (30 * p + r) (x r) (g r)
/-- the world: what judges read, and do not write -/
noncomputable def FrVn (σ τ : zS) : Prop := (∀ k j, 5 ≤ k → k < 27 → τ.1 k j = σ.1 k j) ∧ (∀ k j, 5 ≤ k → k < 27 → τ.2 k j = σ.2 k j) ∧ FrY σ τ ∧ (∀ k j, 114 ≤ k → k ≤ 119 → τ.1 k j = σ.1 k j) ∧ ∀ j, (6 ≤ j ∧ j ≤ 32) → τ.1 110 j = σ.1 110 j
noncomputable def Wj (σ : zS) : Prop := (SmP σ ∧ PlC σ ∧ ∀ u, u < 40 → σ.1 12 u = σ.1 126 u) ∧ FeS σ ∧ CoC σ 9600 ∧ ∀ a b, a < 6 → b < 6 → (bG (σ.1 16 a) b = true ↔ RcH σ a b)
noncomputable def Wg (σ : zS) (n : Nat) : Prop := RwC σ n ∧ RwM σ n ∧ ∀ r, r < n → σ.1 6 (6 * r) = σ.1 114 r ∧ σ.1 6 (6 * r + 1) = σ.1 115 r ∧ σ.1 6 (6 * r + 2) = σ.1 116 r ∧ σ.1 6 (6 * r + 3) = σ.1 117 r ∧ σ.1 6 (6 * r + 4) = σ.1 118 r ∧ σ.1 6 (6 * r + 5) = σ.1 119 r
section N03
variable {σ τ ρ : zS} {n p un an r : Nat} {way w u t : Int} {x : EntJ} {g : Option (Int × Int × Int)}
theorem FrY.tr {a b c : zS} (h : FrY a b) (h' : FrY b c) : FrY a c := ⟨fun k j q1 q2 => (h'.1 k j q1 q2).trans (h.1 k j q1 q2), h'.2.1.trans h.2.1, fun k j q1 q2 => (h'.2.2 k j q1 q2).trans (h.2.2 k j q1 q2)⟩
theorem FrY.sy {a b : zS} (h : FrY a b) : FrY b a := ⟨fun k j q1 q2 => (h.1 k j q1 q2).symm, h.2.1.symm, fun k j q1 q2 => (h.2.2 k j q1 q2).symm⟩
theorem FrVn.refl (σ : zS) : FrVn σ σ := ⟨fun _ _ _ _ => rfl, fun _ _ _ _ => rfl, ⟨fun _ _ _ _ => rfl, rfl, fun _ _ _ _ => rfl⟩, fun _ _ _ _ => rfl, fun _ _ => rfl⟩
theorem FrVn.tr {a b c : zS} (h : FrVn a b) (h' : FrVn b c) : FrVn a c := ⟨fun k j q1 q2 => (h'.1 k j q1 q2).trans (h.1 k j q1 q2), fun k j q1 q2 => (h'.2.1 k j q1 q2).trans (h.2.1 k j q1 q2), h.2.2.1.tr h'.2.2.1, fun k j q1 q2 => (h'.2.2.2.1 k j q1 q2).trans (h.2.2.2.1 k j q1 q2), fun j q => (h'.2.2.2.2 j q).trans (h.2.2.2.2 j q)⟩
theorem FrVn.sy {a b : zS} (h : FrVn a b) : FrVn b a := ⟨fun k j q1 q2 => (h.1 k j q1 q2).symm, fun k j q1 q2 => (h.2.1 k j q1 q2).symm, h.2.2.1.sy, fun k j q1 q2 => (h.2.2.2.1 k j q1 q2).symm, fun j q => (h.2.2.2.2 j q).symm⟩
theorem FrVn.all {a b : zS} (h : ∀ k j, ¬ (k = 0 ∧ j ≠ 2) → k ≠ 4 → ¬ (27 ≤ k ∧ k ≤ 33) → ¬ (k = 110 ∧ 33 ≤ j) → ¬ (k = 110 ∧ 1 ≤ j ∧ j ≤ 5) → k ≠ 112 → k ≠ 113 → k ≠ 120 → ¬ (151 ≤ k) → b.1 k j = a.1 k j) (h' : ∀ k j, k ≠ 28 → k ≠ 152 → b.2 k j = a.2 k j) : FrVn a b := ⟨fun k j q1 q2 => h k j (by omega) (by omega) (by omega) (by omega) (by omega) (by omega) (by omega) (by omega) (by omega), fun k j q1 q2 => h' k j (by omega) (by omega), ⟨fun k j q1 q2 => h k j (by omega) (by omega) (by omega) (by omega) (by omega) (by omega) (by omega) (by omega) (by omega), h 110 0 (by omega) (by omega) (by omega) (by omega) (by omega) (by omega) (by omega) (by omega) (by omega), fun k j q1 q2 => h' k j (by omega) (by omega)⟩, fun k j q1 q2 => h k j (by omega) (by omega) (by omega) (by omega) (by omega) (by omega) (by omega) (by omega) (by omega), fun j q => h 110 j (by omega) (by omega) (by omega) (by omega) (by omega) (by omega) (by omega) (by omega) (by omega)⟩
theorem FrA.v {a b : zS} (h : FrA a b) : FrVn a b := FrVn.all (fun k j _ _ q _ _ _ _ _ _ => h.1 k j (by omega) (by omega) (by omega) (by omega)) (fun k j q _ => h.2 k j q)
theorem FrB.v {a b : zS} (h : FrB a b) : FrVn a b := FrVn.all (fun k j _ _ _ q _ _ _ _ q2 => h.1 k j (by omega) (by omega)) (fun k j _ q => h.2 k j q)
theorem FrG.v {a b : zS} (h : FrG a b) : FrVn a b := FrVn.all (fun k j _ _ _ _ _ _ _ q _ => h.1 k j q) (fun k j _ _ => by rw [h.2])
theorem FrVn.e (h : FrVn σ τ) {k : Nat} (hk : 5 ≤ k ∧ k < 27) : τ.1 k = σ.1 k := funext fun j => h.1 k j hk.1 hk.2
theorem FrVn.l (h : FrVn σ τ) {k : Nat} (hk : 5 ≤ k ∧ k < 27) : τ.2 k = σ.2 k := funext fun j => h.2.1 k j hk.1 hk.2
theorem FrVn.xx (h : FrVn σ τ) (h' : ∀ j, 3 ≤ j → j ≤ 7 → τ.1 27 j = σ.1 27 j) : FrXn σ τ := ⟨h.1, h', h.2.1⟩
theorem FrVn.gg (h : FrVn σ τ) {k : Nat} (hk : 114 ≤ k ∧ k ≤ 119) : τ.1 k = σ.1 k := funext fun j => h.2.2.2.1 k j hk.1 hk.2
theorem inm_cx {k : Int} (h : FrVn σ τ) {y : Int} : InM τ n t k w y = InM σ n t k w y := by
  have e1 : mM τ = mM σ := funext fun r => by unfold mM; rw [h.gg (k := 114) (by decide)]
  have e2 : gM τ = gM σ := funext fun r => by unfold gM; rw [h.gg (k := 115) (by decide)]
  have e3 : stG τ t k = stG σ t k := funext fun r => by unfold stG; rw [h.gg (k := 116) (by decide), h.gg (k := 117) (by decide), h.gg (k := 118) (by decide), h.gg (k := 119) (by decide)]
  unfold InM
  rw [e1, e2, e3]
theorem inc_cx {k : Int} (h : FrVn σ τ) {y : Int} : InC τ n t k w y = InC σ n t k w y := by
  have e1 : mC τ = mC σ := funext fun r => by unfold mC; rw [h.e (k := 6) (by decide)]
  have e2 : gCj9 τ = gCj9 σ := funext fun r => by unfold gCj9; rw [h.e (k := 6) (by decide)]
  have e3 : ctG τ t k = ctG σ t k := funext fun r => by unfold ctG; rw [h.e (k := 6) (by decide)]
  unfold InC
  rw [e1, e2, e3]
theorem Wj.cx (h : FrVn σ τ) (q : Wj σ) : Wj τ := by
  unfold Wj SmP PlC FeS CoC at q ⊢
  rw [h.e (k := 11) (by decide), h.e (k := 12) (by decide), h.e (k := 13) (by decide), h.e (k := 16) (by decide), h.e (k := 7) (by decide), h.e (k := 8) (by decide), h.e (k := 21) (by decide), h.l (k := 9) (by decide), h.l (k := 22) (by decide), h.2.2.1.e (k := 125) (by decide), h.2.2.1.e (k := 126) (by decide), h.2.2.1.e (k := 127) (by decide), h.2.2.1.e (k := 121) (by decide), h.2.2.1.e (k := 122) (by decide), h.2.2.1.l (k := 123) (by decide)]
  refine ⟨q.1, q.2.1, q.2.2.1, fun a b ha hb => ?_⟩
  rw [rh_cx h.2.2.1]
  exact q.2.2.2 a b ha hb
theorem RuS.cx {A m : Nat} (h : FrVn σ τ) (q : RuS σ A m) : RuS τ A m := by
  have eR : RC9 τ = RC9 σ := by unfold RC9; rw [h.e (k := 21) (by decide), h.l (k := 22) (by decide)]
  unfold RuS SmR at q ⊢
  have er : ∀ c, ruC τ A c = ruC σ A c := fun c => by show (τ.1 20 (A + c)).toInt = (σ.1 20 (A + c)).toInt; rw [h.e (k := 20) (by decide)]
  rw [er 0, er 1, er 2, er 3, er 4, er 5, rm_cx (k := 132) h.2.2.1 (by decide), rm_cx (k := 133) h.2.2.1 (by decide), rm_cx (k := 134) h.2.2.1 (by decide), rm_cx (k := 135) h.2.2.1 (by decide), rm_cx (k := 136) h.2.2.1 (by decide), rm_cx (k := 137) h.2.2.1 (by decide), h.e (k := 20) (by decide), h.2.2.1.e (k := 138) (by decide), h.2.2.1.e (k := 139) (by decide), h.2.2.1.e (k := 140) (by decide), eR]
  obtain ⟨q1, q2, a, b, f0, j, q3, q4, q5, q6, q7, q8⟩ := q
  exact ⟨q1, q2, a, b, f0, j, q3, q4, q5, q6, by rw [cl_cx h.2.2.1]; exact q7, by rw [ck_cx h.2.2.1]; exact q8⟩
theorem RuZ.cx {A m : Nat} (h : FrVn σ τ) (q : RuZ σ A m) : RuZ τ A m := by
  unfold RuZ at q ⊢
  have er : ∀ c, ruC τ A c = ruC σ A c := fun c => by show (τ.1 20 (A + c)).toInt = (σ.1 20 (A + c)).toInt; rw [h.e (k := 20) (by decide)]
  rw [er 0, er 1, er 3, er 4, er 5, rm_cx (k := 133) h.2.2.1 (by decide), rm_cx (k := 134) h.2.2.1 (by decide)]
  exact q
theorem RaM.cx (h : FrY σ τ) (hr : ∀ j, j < 16 → ((τ.1 120 j).toInt ≠ 0 ↔ (σ.1 120 j).toInt ≠ 0)) (q : RaM σ way w u t un an r x g) : RaM τ way w u t un an r x g := by
  obtain ⟨⟨b1, b2, b3, b4, b5⟩, f0, j, ⟨c1, c2, c3, c4, c5⟩, c6, c7⟩ := q
  have e132 : rM τ 132 r = rM σ 132 r := rm_cx h (by decide)
  have e133 : rM τ 133 r = rM σ 133 r := rm_cx h (by decide)
  have e134 : rM τ 134 r = rM σ 134 r := rm_cx h (by decide)
  have e135 : rM τ 135 r = rM σ 135 r := rm_cx h (by decide)
  have e136 : rM τ 136 r = rM σ 136 r := rm_cx h (by decide)
  have e137 : rM τ 137 r = rM σ 137 r := rm_cx h (by decide)
  have fw : fwM τ w un r ↔ fwM σ w un r := by
    unfold fwM
    rw [e133, e134, h.e (k := 126) (by decide)]
    constructor
    · rintro (q | q | q | ⟨q1, q2⟩)
      · exact Or.inl q
      · exact Or.inr (Or.inl q)
      · exact Or.inr (Or.inr (Or.inl q))
      · exact Or.inr (Or.inr (Or.inr ⟨q1, (hr _ (by have := b3 q1; omega)).mp q2⟩))
    · rintro (q | q | q | ⟨q1, q2⟩)
      · exact Or.inl q
      · exact Or.inr (Or.inl q)
      · exact Or.inr (Or.inr (Or.inl q))
      · exact Or.inr (Or.inr (Or.inr ⟨q1, (hr _ (by have := b3 q1; omega)).mpr q2⟩))
  have fa : faM τ an r ↔ faM σ an r := by
    unfold faM
    rw [e135, e132, rh_cx h, rh_cx h]
  have ft : ftM τ u r ↔ ftM σ u r := by
    unfold ftM
    rw [e136, e137, um_cx h]
  have ftp : FtN τ w u un an r = FtN σ w u un an r := by
    unfold FtN
    rw [propext fw, propext fa, propext ft]
  refine ⟨⟨by rw [e132]; exact b1, by rw [e133]; exact b2, by rw [e133, e134]; exact b3, by rw [e135]; exact b4, by rw [e136, e137]; exact b5⟩, f0, j, ⟨by rw [h.e (k := 139) (by decide)]; exact c1, by rw [h.e (k := 140) (by decide)]; exact c2, c3, by rw [ck_cx h]; exact c4, by rw [ftp, em_cx h, cl_cx h]; exact c5⟩, c6, ?_⟩
  unfold RsM at c7 ⊢
  rw [ftp, e132, pm_cx h]
  exact c7
theorem RaC.cx {a : Nat} {act : Int32} (h : FrXn σ τ) (q : RaC σ way a act x g) : RaC τ way a act x g := by
  obtain ⟨q1, ⟨q2, q3, q4, q5⟩, ⟨sn, en, m, q6, q7, q8, q9⟩, q10, q11⟩ := q
  refine ⟨by rw [rb_cx h]; exact q1, ⟨by rw [ru_cx h]; exact q2, by rw [ru_cx h]; exact q3, by rw [ru_cx h]; exact q4, by rw [ru_cx h, ru_cx h]; exact q5⟩, ⟨sn, en, m, by rw [h.e (k := 20) (by decide)]; exact q6, by rw [h.e (k := 20) (by decide)]; exact q7, by rw [co_cx h]; exact q8, by rw [ft_cx h, ec_cx h, rc_cx h]; exact q9⟩, q10, ?_⟩
  unfold RsC at q11 ⊢
  rw [ft_cx h, ru_cx h, wt_cx h]
  exact q11
theorem vM_ne {k j : Nat} (hk : k ≠ 120) : (vM σ n w t).1 k j = σ.1 k j := by
  show xup σ.1 120 _ k j = σ.1 k j
  rw [xup_ne hk]
theorem vM_r {j : Nat} : ((vM σ n w t).1 120 j).toInt ≠ 0 ↔ InM σ n t (σ.1 110 0).toInt w (j : Int) := by
  have e : (vM σ n w t).1 120 j = @ite _ (InM σ n t (σ.1 110 0).toInt w (j : Int)) (Classical.propDecidable _) 1 0 := by
    show xup σ.1 120 _ 120 j = _
    rw [xup_same]
    rfl
  rw [e]
  by_cases q : InM σ n t (σ.1 110 0).toInt w (j : Int)
  · rw [if_pos q]; exact ⟨fun _ => q, fun _ => by decide⟩
  · rw [if_neg q]; exact ⟨fun z => absurd rfl z, fun z => absurd z q⟩
theorem vM_v : FrVn σ (vM σ n w t) := FrVn.all (fun k j _ _ _ _ _ _ _ q _ => vM_ne q) (fun k j _ _ => rfl)
theorem vM_m (h : FrVn σ τ) {x : EntJ} {g : Option (Int × Int × Int)} (q : RaM (vM σ n w t) way w u t un an r x g) (hr : ∀ j, j < 16 → ((τ.1 120 j).toInt ≠ 0 ↔ InM σ n t (σ.1 110 0).toInt w (j : Int))) : RaM τ way w u t un an r x g := RaM.cx (vM_v.2.2.1.sy.tr h.2.2.1) (fun j hj => (hr j hj).trans vM_r.symm) q
/-- there is one -/
theorem vd_ex (hp : p < 8) (hpo : PoSa σ p) (hz : ∀ r, r < 30 → RuZ σ (raN p r) (30 * p + r)) : ∃ s, Vd σ n p w un an t s := by
  obtain ⟨c, ⟨_, hc⟩, h30, _, hr⟩ := hpo.ru hp
  have : ∀ r, ∃ xg : EntJ × Option (Int × Int × Int), r < c → RaM (vM σ n w t) (σ.1 130 p).toInt w (un : Int) t un an (30 * p + r) xg.1 xg.2 := fun r => by
    by_cases q : r < c
    · obtain ⟨x, g, h⟩ := ra_M (way := (σ.1 130 p).toInt) (w := w) (u := (un : Int)) (t := t) (un := un) (an := an) (hr r q) (hz r (by omega)) (vM_v (σ := σ) (n := n) (w := w) (t := t)).2.2.1
      exact ⟨(x, g), fun _ => h⟩
    · exact ⟨((4, 0), none), fun z => absurd z q⟩
  obtain ⟨f, hf⟩ := Classical.axiomOfChoice this
  exact ⟨_, c, fun r => (f r).1, fun r => (f r).2, hc, h30, rfl, fun r hr => hf r hr⟩
theorem Vd.cx {s : JdS} (h : FrVn σ τ) (h31 : τ.1 131 p = σ.1 131 p) (q : Vd σ n p w un an t s) : Vd τ n p w un an t s := by
  obtain ⟨N, x, g, q1, q2, q3, q4⟩ := q
  refine ⟨N, x, g, by rw [h31]; exact q1, q2, q3, fun r hr => ?_⟩
  rw [h.2.2.1.e (k := 130) (by decide)]
  refine vM_m (h.tr vM_v) (q4 r hr) (fun j hj => ?_)
  rw [vM_r, inm_cx h, h.2.2.1.2.1]
noncomputable def ansJ (s : JdS) : Int := match s.2 with | none => 0 | some y => y.2.2.1
noncomputable def rulJ (s : JdS) : Int := match s.2 with | none => -4 | some y => (y.1 : Int)
theorem ans_sh {s : JdS} {c : Int} : ansJ (s.1, shB c s.2) = ansJ s ∧ rulJ (s.1, shB c s.2) = rulJ s := by
  unfold ansJ rulJ shB
  cases s.2 <;> exact ⟨rfl, rfl⟩
/-- the class's rules, out of the verdict -/
theorem vd_cl {s : JdS} {act : Int32} (hp : p < 8) (hw : Wj σ) (hg : Wg σ n) (hpo : PoSa σ p) (hz : ∀ r, r < 30 → RuZ σ (raN p r) (30 * p + r)) (hv : Vd σ n p w un an t s) (hF : FrVn σ ρ) (h3 : (ρ.1 27 3).toInt = w) (h4 : ∀ j, j < 16 → (bG (ρ.1 27 4) j = true ↔ InC σ n t (σ.1 110 0).toInt w (j : Int))) (h5 : (ρ.1 27 5).toInt = (un : Int)) (hu : un < 40) (h6 : (ρ.1 27 6).toInt = t) (h7 : ρ.1 27 7 = σ.1 110 0) (hact : act.toInt = (an : Int)) (han : an < 6) : ∃ (N : Nat) (y : Nat → EntJ) (g : Nat → Option (Int × Int × Int)), (ρ.1 19 p).toInt = (N : Int) ∧ N ≤ 30 ∧ (∀ r, r < N → RaC ρ (ρ.1 18 p).toInt (raN p r) act (y r) (g r)) ∧ ansJ (jdF g N) = ansJ s ∧ rulJ (jdF g N) = rulJ s := by
  obtain ⟨c, ⟨hc, hc'⟩, h30, h18, hr⟩ := hpo.ru hp
  obtain ⟨N, x, g', q1, q2, q3, q4⟩ := hv
  have hN : N = c := by omega
  subst hN
  have hK : FrVn ρ (vM ρ n w t) := vM_v
  have hV : FrVn σ (vM ρ n w t) := hF.tr hK
  have wj := hw.cx hV
  have k27 : ∀ j, (vM ρ n w t).1 27 j = ρ.1 27 j := fun j => vM_ne (by decide)
  have hX : FrXn (vM ρ n w t) ρ := hK.sy.xx (fun j _ _ => (k27 j).symm)
  have way : (ρ.1 18 p).toInt = (σ.1 130 p).toInt := by rw [hF.e (k := 18) (by decide), h18]
  have bt : ∀ {x o : Int32} {m : Nat}, o.toInt = (m : Int) → m < 31 → (btC x o ↔ bG x m = true) := fun {x o m} e hm => by
    have a := bG_rd (x := x) e hm
    constructor
    · intro q
      by_cases z : bG x m = true
      · exact z
      · rw [if_neg z] at a
        rw [show ((x >>> (o &&& 31)) &&& 1) = 1 from q] at a
        exact absurd a (by decide)
    · intro q
      rw [if_pos q] at a
      exact Int32.toInt_inj.mp (a.trans (by decide))
  have one : ∀ r, ∃ yg : EntJ × Option (Int × Int × Int), r < N → RaC ρ (ρ.1 18 p).toInt (raN p r) act yg.1 yg.2 ∧ g' r = shG (if (σ.1 130 p).toInt = 0 then 0 else -403) yg.2 := fun r => by
    by_cases q : r < N
    · have hs := (hr r q).cx hV
      have zz := (hz r (by omega)).cx hV
      have hM : RaM (vM ρ n w t) (σ.1 130 p).toInt w (un : Int) t un an (30 * p + r) (x r) (g' r) := vM_m hV (q4 r q) (fun j hj => by rw [vM_r, inm_cx hF, hF.2.2.1.2.1])
      have hE : EvC (vM ρ n w t) w (un : Int) t = EvM (vM ρ n w t) w (un : Int) t := ev_eq wj.2.1 (by rw [k27, h7, vM_ne (by decide), hF.2.2.1.2.1]) _ _ _
      obtain ⟨z0, z1, z3, z4, z5, z6⟩ := zz
      have ft : FtA (vM ρ n w t) (raN p r) act ↔ FtN (vM ρ n w t) w (un : Int) un an (30 * p + r) := by
        have e3 : ((vM ρ n w t).1 27 3).toInt = w := by rw [k27]; exact h3
        have e5 : ((vM ρ n w t).1 27 5).toInt = (un : Int) := by rw [k27]; exact h5
        have := ft_eq (act := act) (un := un) (an := an) hs.1 wj.1.1 wj.1.2.1 e5 hu (wj.1.2.2 un hu) z1 (fun k1 => ?_) (fun k6 => ?_) (fun k6 => ?_)
        · rw [e3, e5] at this; exact this
        · have g2 := hs.1.2.2.1 (Or.inl k1)
          have b := z6 (by rw [← hs.1.2.1]; exact k1)
          have e : ((vM ρ n w t).1 20 (raN p r + 2)).toInt = (((rM (vM ρ n w t) 134 (30 * p + r)).toNat : Nat) : Int) := by rw [show ((vM ρ n w t).1 20 (raN p r + 2)).toInt = rM (vM ρ n w t) 134 (30 * p + r) from g2]; omega
          rw [bt e (by omega), k27, h4 _ (by omega), in_same hg.2.2, vM_r, inm_cx hF, hF.2.2.1.2.1]
        · have e : ((vM ρ n w t).1 20 (raN p r + 3)).toInt = (((rM (vM ρ n w t) 135 (30 * p + r)).toNat : Nat) : Int) := by
            have : ((vM ρ n w t).1 20 (raN p r + 3)).toInt = rM (vM ρ n w t) 135 (30 * p + r) := hs.1.2.2.2.1
            have z3' : 0 ≤ ((vM ρ n w t).1 20 (raN p r + 3)).toInt := z3.1
            omega
          have z3' : ((vM ρ n w t).1 20 (raN p r + 3)).toInt ≤ 6 := z3.2
          have k6' : ((vM ρ n w t).1 20 (raN p r + 3)).toInt ≠ 6 := k6
          rw [bt e (by omega), show act.toInt.toNat = an by omega]
          exact wj.2.2.2 an _ han (by omega)
        · have g3 : ruC (vM ρ n w t) (raN p r) 3 = rM (vM ρ n w t) 135 (30 * p + r) := hs.1.2.2.2.1
          rw [bt hact (by omega), g3]
          exact wj.2.2.2 _ an (by omega) han
      obtain ⟨y, g, hy, he⟩ := ra_C (A := raN p r) (by show 9 * (30 * p + r) + 8 < 2160; omega) hs ⟨z0, z1, z3, z4, z5, z6⟩ (by rw [k27]; exact h3) (by rw [k27]; exact h5) (by rw [k27]; exact h6) hE wj.2.2.1 (by rw [k27]; exact h5) hu ft wj.1.1 wj.1.2.1 hM
      refine ⟨(y, g), fun _ => ⟨?_, he⟩⟩
      rw [way]
      exact RaC.cx hX hy
    · exact ⟨((4, 0), none), fun z => absurd z q⟩
  obtain ⟨f, hf⟩ := Classical.axiomOfChoice one
  have sh := jd_sh (g := fun r => (f r).2) (g' := g') (c := if (σ.1 130 p).toInt = 0 then 0 else -403) (n := N) (fun r hr => (hf r hr).2)
  refine ⟨N, fun r => (f r).1, fun r => (f r).2, by rw [hF.e (k := 19) (by decide)]; exact hc, q2, fun r hr => (hf r hr).1, ?_⟩
  rw [q3, sh]
  exact ⟨ans_sh.1.symm, ans_sh.2.symm⟩
end N03

end
end
section
section
/-! ===== N04: both judges, called ===== -/
noncomputable def W_Ju_answer (po act asked : Int32) (σ : zS) (Q : Int32 → zS → Prop) : Prop := (po.toInt = -4 ∧ Q 0 (stA σ asked)) ∨ ∃ (p N : Nat) (g : Nat → Option (Int × Int × Int)) (x : Nat → EntJ), (po.toInt = (p : Int) ∧ p < 8 ∧ (0 ≤ act.toInt ∧ act.toInt ≤ 5) ∧ PlC (stA σ asked) ∧ (∀ f : Nat, f < 480 → 0 ≤ ((stA σ asked).1 8 f).toInt ∧ ((stA σ asked).1 8 f).toInt ≤ 20) ∧ (0 ≤ ((stA σ asked).1 27 3).toInt ∧ ((stA σ asked).1 27 3).toInt ≤ 19) ∧ (0 ≤ ((stA σ asked).1 27 7).toInt ∧ ((stA σ asked).1 27 7).toInt ≤ 1000000000) ∧ (0 ≤ ((stA σ asked).1 27 6).toInt ∧ ((stA σ asked).1 27 6).toInt ≤ 1000000000) ∧ N ≤ 30 ∧ (∀ r, r < N → RaC (stA σ asked) ((stA σ asked).1 18 p).toInt (raN p r) act (x r) (g r)) ∧ ((stA σ asked).1 19 p).toInt = (N : Int)) ∧ ∀ (τ' : zS) (ans' bst' : Int32), FrA (stA σ asked) τ' → DsC (stA σ asked) τ' p (jdF g N) ans'.toInt bst'.toInt → Q ans' τ'
noncomputable def W_M_judge (po who act th t : Int32) (σ : zS) (Q : Unit → zS → Prop) : Prop := (po.toInt = -4 ∧ W_M_begins σ (fun _ s => Q () (stM s))) ∨ ∃ (p N un an : Nat) (rk : Nat → Nat) (g : Nat → Option (Int × Int × Int)) (x : Nat → EntJ), (po.toInt = (p : Int) ∧ p < 8 ∧ th.toInt = (un : Int) ∧ un < 40 ∧ act.toInt = (an : Int) ∧ an < 6 ∧ ((stM σ).1 110 26).toInt ≠ 0 ∧ TrM (stM σ) rk ∧ (∀ f : Nat, f < 480 → 0 ≤ ((stM σ).1 122 f).toInt ∧ ((stM σ).1 122 f).toInt ≤ 20) ∧ (0 ≤ who.toInt ∧ who.toInt ≤ 19) ∧ (0 ≤ ((stM σ).1 110 0).toInt ∧ ((stM σ).1 110 0).toInt ≤ 1000000000) ∧ (0 ≤ t.toInt ∧ t.toInt ≤ 1000000000) ∧ ((stM σ).1 131 p).toInt = (N : Int) ∧ N ≤ 30 ∧ ∀ r, r < N → RaM (stM σ) ((stM σ).1 130 p).toInt who.toInt th.toInt t.toInt un an (30 * p + r) (x r) (g r)) ∧ ∀ (τ' : zS) (bst' : Int32), FrB (stM σ) τ' → DsM τ' (jdF g N) bst'.toInt → Q () τ'
noncomputable def W_M_keeps (po : Int32) (σ : zS) (Q : Int32 → zS → Prop) : Prop := (∃ p n : Nat, (po.toInt = (p : Int) ∧ p < 8 ∧ (σ.1 110 66).toInt = (n : Int) ∧ n < 30) ∧ ∀ τ' : zS, MkM σ τ' (rM σ 138 (30 * p + n)) → Q (τ'.1 110 65) τ') ∨ ((σ.1 110 66).toInt = -4 ∧ ∀ τ' : zS, MkM σ τ' (0 : Int32).toInt → Q (τ'.1 110 65) τ')
section N04
variable {σ τ ρ μ : zS} {n p un an : Nat} {s : JdS}
theorem stA_v {asked : Int32} : FrVn σ (stA σ asked) := by
  unfold stA
  exact FrVn.all (fun k j _ _ q _ _ _ _ _ _ => by rw [yI_ne (by omega), yI_ne (by omega), yI_ne (by omega), yI_ne (by omega), yI_ne (by omega)]) (fun k j _ _ => rfl)
theorem stA_27 {asked : Int32} {j : Nat} (h : j ≠ 5) : (stA σ asked).1 27 j = σ.1 27 j := by
  unfold stA
  rw [yI_ne (by omega), yI_ne (by omega), yI_ne (by omega), yI_ne (by omega), yI_ne (by omega)]
theorem stA_5 {asked : Int32} : (stA σ asked).1 27 5 = asked := by unfold stA; rw [yI_at]
theorem stM_v : FrVn σ (stM σ) := by
  unfold stM
  exact FrVn.all (fun k j _ _ _ q _ _ _ _ _ => by rw [yI_ne (by omega), yI_ne (by omega), yI_ne (by omega), yI_ne (by omega)]) (fun k j _ _ => rfl)
theorem stM_ne {k j : Nat} (h : ¬ (k = 110 ∧ 65 ≤ j ∧ j ≤ 68)) : (stM σ).1 k j = σ.1 k j := by
  unfold stM
  rw [yI_ne (by omega), yI_ne (by omega), yI_ne (by omega), yI_ne (by omega)]
theorem jd_rul {g : Nat → Option (Int × Int × Int)} : ∀ {N : Nat}, rulJ (jdF g N) < N
  | 0 => by show (-4 : Int) < 0; decide
  | N + 1 => by
    have ih := jd_rul (g := g) (N := N)
    show rulJ (jd1 (jdF g N) N (g N)) < ((N + 1 : Nat) : Int)
    unfold jd1
    cases g N with
    | none => show rulJ (jdF g N) < ((N + 1 : Nat) : Int); omega
    | some x =>
      show rulJ ((jdF g N).1 + 1, jdB N x (jdF g N).2) < ((N + 1 : Nat) : Int)
      unfold rulJ at ih ⊢
      revert ih
      cases (jdF g N).2 with
      | none => intro _; show (N : Int) < ((N + 1 : Nat) : Int); omega
      | some y =>
        intro ih
        have ih : (y.1 : Int) < (N : Int) := ih
        show (match jdB N x (some y) with | none => (-4 : Int) | some y => (y.1 : Int)) < ((N + 1 : Nat) : Int)
        by_cases q : y.2.1 < x.2.1
        · have e : jdB N x (some y) = some (N, x.2.1, x.1, x.2.2) := by show (if y.2.1 < x.2.1 then some (N, x.2.1, x.1, x.2.2) else some y) = _; rw [if_pos q]
          rw [e]
          show (N : Int) < ((N + 1 : Nat) : Int)
          omega
        · have e : jdB N x (some y) = some y := by show (if y.2.1 < x.2.1 then some (N, x.2.1, x.1, x.2.2) else some y) = _; rw [if_neg q]
          rw [e]
          show (y.1 : Int) < ((N + 1 : Nat) : Int)
          omega
theorem ds_ans {p : Nat} {s : JdS} {a b : Int} (h : DsC σ τ p s a b) : a = ansJ s ∧ (τ.1 31 0).toInt = rulJ s := by
  have h2 := h.2
  unfold DsO at h2
  unfold ansJ rulJ
  revert h2
  cases s.2 with
  | none => intro h2; exact ⟨h2.2.2.2.1, h2.1⟩
  | some y => intro h2; exact ⟨h2.2.2.2.1, h2.1⟩
theorem dm_ans {s : JdS} {b : Int} (h : DsM τ s b) : (τ.1 110 65).toInt = ansJ s ∧ (τ.1 110 66).toInt = rulJ s := by
  have h2 := h.2
  unfold DmO at h2
  unfold ansJ rulJ
  revert h2
  cases s.2 with
  | none => intro h2; exact ⟨h2.2.1, h2.1⟩
  | some y => intro h2; exact ⟨h2.2.1, h2.1⟩
/-- the policy of a request: none, or one that stands -/
noncomputable def PoV (σ : zS) (n : Nat) (po : Int) (w : Int) (un an : Nat) (t : Int) (s : JdS) : Prop := (po = -4 ∧ s = (0, none)) ∨ ∃ p : Nat, po = (p : Int) ∧ p < 8 ∧ PoSa σ p ∧ (∀ r, r < 30 → RuZ σ (raN p r) (30 * p + r)) ∧ Vd σ n p w un an t s
theorem pv_ex {po w t : Int} (h : po = -4 ∨ ∃ p : Nat, po = (p : Int) ∧ p < 8 ∧ PoSa σ p ∧ ∀ r, r < 30 → RuZ σ (raN p r) (30 * p + r)) : ∃ s, PoV σ n po w un an t s := by
  rcases h with h | ⟨p, h1, h2, h3, h4⟩
  · exact ⟨_, Or.inl ⟨h, rfl⟩⟩
  · obtain ⟨s, hs⟩ := vd_ex (n := n) (w := w) (un := un) (an := an) (t := t) h2 h3 h4
    exact ⟨s, Or.inr ⟨p, h1, h2, h3, h4, hs⟩⟩
theorem w_answer {po act asked : Int32} {w t : Int} {Q : Int32 → zS → Prop} (hw : Wj σ) (hg : Wg σ n) (hv : PoV σ n po.toInt w un an t s) (hF : FrVn σ ρ) (h3 : (ρ.1 27 3).toInt = w) (h3b : 0 ≤ w ∧ w ≤ 19) (h4 : ∀ j, j < 16 → (bG (ρ.1 27 4) j = true ↔ InC σ n t (σ.1 110 0).toInt w (j : Int))) (h5 : asked.toInt = (un : Int)) (hu : un < 40) (h6 : (ρ.1 27 6).toInt = t) (h6b : 0 ≤ t ∧ t ≤ 1000000000) (h7 : ρ.1 27 7 = σ.1 110 0) (h7b : 0 ≤ (σ.1 110 0).toInt ∧ (σ.1 110 0).toInt ≤ 1000000000) (hact : act.toInt = (an : Int)) (han : an < 6) (kk : ∀ (τ : zS) (a : Int32), FrA (stA ρ asked) τ → a.toInt = ansJ s → (τ.1 31 0).toInt = rulJ s → Q a τ) : W_Ju_answer po act asked ρ Q := by
  rcases hv with ⟨q1, q2⟩ | ⟨p, q1, q2, q3, q4, q5⟩
  · refine Or.inl ⟨q1, kk _ _ (FrA.refl _) ?_ ?_⟩
    · rw [q2]; decide
    · rw [q2]; unfold stA
      rw [yI_ne (by decide), yI_ne (by decide), yI_ne (by decide), yI_ne (by decide), yI_at]; decide
  · have hV : FrVn σ (stA ρ asked) := hF.tr stA_v
    have e3 : (stA ρ asked).1 27 3 = ρ.1 27 3 := stA_27 (by decide)
    have e6 : (stA ρ asked).1 27 6 = ρ.1 27 6 := stA_27 (by decide)
    have e7 : (stA ρ asked).1 27 7 = ρ.1 27 7 := stA_27 (by decide)
    have e4 : (stA ρ asked).1 27 4 = ρ.1 27 4 := stA_27 (by decide)
    obtain ⟨N, y, g, c1, c2, c3, c4, c5⟩ := vd_cl (act := act) q2 hw hg q3 q4 q5 hV (by rw [e3]; exact h3) (by rw [e4]; exact h4) (by rw [stA_5]; exact h5) hu (by rw [e6]; exact h6) (by rw [e7]; exact h7) hact han
    have wj := hw.cx hV
    refine Or.inr ⟨p, N, g, y, ⟨q1, q2, by omega, wj.1.2.1, fun f hf => (wj.2.1.1 f hf).2.2, by rw [e3, h3]; exact h3b, by rw [e7, h7]; exact h7b, by rw [e6, h6]; exact h6b, c2, c3, c1⟩, fun τ a b f d => ?_⟩
    obtain ⟨d1, d2⟩ := ds_ans d
    exact kk τ a f (d1.trans c4) (d2.trans c5)
theorem w_judgeM {po who act th t : Int32} {rk : Nat → Nat} {Q : Unit → zS → Prop} (hw : Wj σ) (ht : TrM σ rk) (hbg : (σ.1 110 26).toInt ≠ 0) (hv : PoV σ n po.toInt who.toInt un an t.toInt s) (hF : FrVn σ μ) (hr : ∀ j, j < 16 → (rG μ j = true ↔ InM σ n t.toInt (σ.1 110 0).toInt who.toInt (j : Int))) (h5 : th.toInt = (un : Int)) (hu : un < 40) (hact : act.toInt = (an : Int)) (han : an < 6) (hwb : 0 ≤ who.toInt ∧ who.toInt ≤ 19) (hnb : 0 ≤ (σ.1 110 0).toInt ∧ (σ.1 110 0).toInt ≤ 1000000000) (htb : 0 ≤ t.toInt ∧ t.toInt ≤ 1000000000) (kk : ∀ τ : zS, FrB (stM μ) τ → (τ.1 110 65).toInt = ansJ s → (τ.1 110 66).toInt = rulJ s → rulJ s < 30 → Q () τ) : W_M_judge po who act th t μ Q := by
  have hbg' : (μ.1 110 26).toInt ≠ 0 := by rw [hF.2.2.2.2 26 (by omega)]; exact hbg
  rcases hv with ⟨q1, q2⟩ | ⟨p, q1, q2, q3, q4, N, x, g, q5, q6, q7, q8⟩
  · refine Or.inl ⟨q1, ⟨fun z => absurd z hbg', fun _ => kk _ (FrB.refl _) ?_ ?_ ?_⟩⟩
    · rw [q2]; unfold stM
      rw [yI_ne (by decide), yI_ne (by decide), yI_ne (by decide), yI_at]; decide
    · rw [q2]; unfold stM
      rw [yI_ne (by decide), yI_ne (by decide), yI_at]; decide
    · rw [q2]; decide
  · have hV : FrVn σ (stM μ) := hF.tr stM_v
    have wj := hw.cx hV
    refine Or.inr ⟨p, N, un, an, rk, g, x, ⟨q1, q2, h5, hu, hact, han, by rw [stM_ne (by omega)]; exact hbg', by rw [tm_cx hV.2.2.1]; exact ht, fun f hf => by rw [← (wj.2.1.1 f hf).2.1]; exact (wj.2.1.1 f hf).2.2, hwb, by rw [hV.2.2.1.2.1]; exact hnb, htb, by rw [hV.2.2.1.e (k := 131) (by decide)]; exact q5, q6, fun r hr' => ?_⟩, fun τ b f d => ?_⟩
    · rw [hV.2.2.1.e (k := 130) (by decide), h5]
      refine vM_m hV (q8 r hr') (fun j hj => ?_)
      rw [stM_ne (by omega), ← hr j hj]
      unfold rG
      exact decide_eq_true_iff.symm
    · obtain ⟨d1, d2⟩ := dm_ans d
      rw [← q7] at d1 d2
      exact kk τ f d1 d2 (by have := jd_rul (g := g) (N := N); rw [q7]; omega)
end N04

end
end
section
section
theorem yfxe_13_139 : FxE "RightsHouseModel" 139 11 63 := fx_e (m := 284) (t := 3) rfl (by decide) (by decide +kernel)
theorem yfxe_13_704 : FxE "RightsHouseModel" 704 11 66 := fx_e (m := 284) (t := 0) rfl (by decide) (by decide +kernel)
theorem yfxe_13_710 : FxE "RightsHouseModel" 710 11 68 := fx_e (m := 284) (t := 0) rfl (by decide) (by decide +kernel)
theorem yfxi_13_701 : FxI "RightsHouseModel" 701 11 65 := fx_i (m := 284) rfl (by decide) (by decide +kernel)
theorem yfxi_13_704 : FxI "RightsHouseModel" 704 11 66 := fx_i (m := 284) rfl (by decide) (by decide +kernel)
theorem yfxi_13_707 : FxI "RightsHouseModel" 707 11 67 := fx_i (m := 284) rfl (by decide) (by decide +kernel)
theorem yfxi_13_710 : FxI "RightsHouseModel" 710 11 68 := fx_i (m := 284) rfl (by decide) (by decide +kernel)
theorem ykaa_152 : KaA 152 101 1300 := ka_a (by decide +kernel)
theorem ykfa_110_63 : KfA 110 63 11 2 152 := kf_a (by decide) (by decide +kernel)
theorem ykfa_110_65 : KfA 110 65 11 0 0 := kf_a (by decide) (by decide +kernel)
theorem ykfa_110_66 : KfA 110 66 11 0 0 := kf_a (by decide) (by decide +kernel)
theorem ykfa_110_67 : KfA 110 67 11 0 0 := kf_a (by decide) (by decide +kernel)
theorem ykfa_110_68 : KfA 110 68 11 0 0 := kf_a (by decide) (by decide +kernel)
noncomputable def W_M_says (a1 a2 a3 a4 a5 : Int32) (σ : zS) (Q : Int32 → zS → Prop) : Prop := False ∧ ∀ v s, Q v s
theorem sF_M_says {E : xV} {σ : zS} {K : zKt} {a1 a2 a3 a4 a5 : Int32} {Q : Int32 → zS → Prop} (h : W_M_says a1 a2 a3 a4 a5 σ Q) (k : ∀ v s, Q v s → K (some (.int v)) s) : Cz E Y_M_says [.ref 110, .int a1, .int a2, .int a3, .int a4, .int a5] σ K := h.1.elim
noncomputable def W_M_placeOf (a1 a2 a3 : Int32) (σ : zS) (Q : Int32 → zS → Prop) : Prop := False ∧ ∀ v s, Q v s
theorem sF_M_placeOf {E : xV} {σ : zS} {K : zKt} {a1 a2 a3 : Int32} {Q : Int32 → zS → Prop} (h : W_M_placeOf a1 a2 a3 σ Q) (k : ∀ v s, Q v s → K (some (.int v)) s) : Cz E Y_M_placeOf [.ref 110, .int a1, .int a2, .int a3] σ K := h.1.elim
noncomputable def W_M_judgeN_b118 (F31 : Int32 → Int32 → Int32 → Int32 → Int32 → Int32 → Int32 → zS → (Unit → zS → Prop) → Prop) (x1 : Int32) (x2 : Int32) (x3 : Int32) (x4 : Int32) (x5 : Int32) (x7 : Int32) (x9 : Int32) (x10 : Int32) (σ : zS) (Q : Unit → zS → Prop) : Prop := ∀ σ1 : zS, zI σ 110 66 x7 = σ1 → (∀ σ2 : zS, zI σ1 110 65 x9 = σ2 → (((Int32.toInt x9) = 3 → ((-2147483648 ≤ (Int64.toInt (σ2.2 152 0)) ∧ (Int64.toInt (σ2.2 152 0)) ≤ 2147483647) ∧ ∀ r6 : Int32, r6.toInt = (Int64.toInt (σ2.2 152 0)) → (∀ σ7 : zS, zI σ2 110 67 r6 = σ7 → ((-2147483648 ≤ (Int32.toInt x7) + 1 ∧ (Int32.toInt x7) + 1 ≤ 2147483647) ∧ ∀ r8 : Int32, r8.toInt = (Int32.toInt x7) + 1 → (F31 x1 x2 x3 x4 x5 x10 r8 σ7 Q))))) ∧ (¬ (Int32.toInt x9) = 3 → (∀ σ4 : zS, zI σ2 110 67 0 = σ4 → ((-2147483648 ≤ (Int32.toInt x7) + 1 ∧ (Int32.toInt x7) + 1 ≤ 2147483647) ∧ ∀ r5 : Int32, r5.toInt = (Int32.toInt x7) + 1 → (F31 x1 x2 x3 x4 x5 x10 r5 σ4 Q))))))
theorem sb_M_judgeN_118 {E : xV} {σ : zS} {K : zKt} {F31 : Int32 → Int32 → Int32 → Int32 → Int32 → Int32 → Int32 → zS → (Unit → zS → Prop) → Prop} {x1 : Int32} {x2 : Int32} {x3 : Int32} {x4 : Int32} {x5 : Int32} {x7 : Int32} {x9 : Int32} {x10 : Int32} {Q : Unit → zS → Prop} (f31 : ∀ (x1 : Int32) (x2 : Int32) (x3 : Int32) (x4 : Int32) (x5 : Int32) (x6 : Int32) (x7 : Int32) (σ : zS), F31 x1 x2 x3 x4 x5 x6 x7 σ Q → Wz E Y_M_judge 31 [(0, .ref 110), (1, .int x1), (2, .int x2), (3, .int x3), (4, .int x4), (5, .int x5), (6, .int x6), (7, .int x7)] [] σ K) (k : ∀ v s, Q v s → K none s) (h : W_M_judgeN_b118 F31 x1 x2 x3 x4 x5 x7 x9 x10 σ Q) : Wz E Y_M_judge 118 [(0, .ref 110), (1, .int x1), (2, .int x2), (3, .int x3), (4, .int x4), (5, .int x5), (7, .int x7), (9, .int x9), (10, .int x10)] [] σ K := by
  unfold W_M_judgeN_b118 at h
  refine z_iload (i := 10) (q := 8) (pc' := 120) ⟨by decide +kernel, rfl⟩ rfl ?_
  refine z_istore (i := 6) (pc' := 122) ⟨by decide +kernel, rfl⟩ (by decide) rfl ?_
  show Wz E Y_M_judge 122 [(6, .int x10), (0, .ref 110), (1, .int x1), (2, .int x2), (3, .int x3), (4, .int x4), (5, .int x5), (7, .int x7), (9, .int x9), (10, .int x10)] [] σ K
  refine z_aload_n (f := 0) (i := 0) (q := 1) (pc' := 123) ⟨by decide +kernel, rfl⟩ rfl rfl ?_
  refine z_iload (i := 7) (q := 7) (pc' := 125) ⟨by decide +kernel, rfl⟩ rfl ?_
  refine w_puti (k := 110) (j := 66) (idx := 704) (pc' := 128) yfxi_13_704 ykfa_110_66 ⟨by decide +kernel, rfl⟩ ?_
  generalize hs1 : zI σ 110 66 x7 = σ1
  have h := h σ1 hs1
  refine z_aload_n (f := 0) (i := 0) (q := 1) (pc' := 129) ⟨by decide +kernel, rfl⟩ rfl rfl ?_
  refine z_iload (i := 9) (q := 8) (pc' := 131) ⟨by decide +kernel, rfl⟩ rfl ?_
  refine w_puti (k := 110) (j := 65) (idx := 701) (pc' := 134) yfxi_13_701 ykfa_110_65 ⟨by decide +kernel, rfl⟩ ?_
  generalize hs2 : zI σ1 110 65 x9 = σ2
  have h := h σ2 hs2
  refine z_aload_n (f := 0) (i := 0) (q := 1) (pc' := 135) ⟨by decide +kernel, rfl⟩ rfl rfl ?_
  refine z_iload (i := 9) (q := 8) (pc' := 137) ⟨by decide +kernel, rfl⟩ rfl ?_
  refine z_iconst (i := 3) (v := 3) (pc' := 138) ⟨by decide +kernel, rfl⟩ (by decide) ?_
  refine z_icmp_ne (off := 13) (tgt := 151) (pc' := 141) ⟨by decide +kernel, by decide, rfl⟩ (fun h3 => ?_) (fun h3 => ?_)
  · have h := h.2 (qi_ne_t rfl (by decide) h3)
    refine z_iconst (i := 0) (v := 0) (pc' := 152) ⟨by decide +kernel, rfl⟩ (by decide) ?_
    refine w_puti (k := 110) (j := 67) (idx := 707) (pc' := 155) yfxi_13_707 ykfa_110_67 ⟨by decide +kernel, rfl⟩ ?_
    generalize hs4 : zI σ2 110 67 0 = σ4
    have h := h σ4 hs4
    refine z_iinc (i := 7) (z := 1) (q := 7) (pc' := 158) ⟨by decide +kernel, rfl⟩ rfl rfl (by decide) rfl ?_
    show Wz E Y_M_judge 158 [(7, .int (x7 + Int32.ofInt 1)), (6, .int x10), (0, .ref 110), (1, .int x1), (2, .int x2), (3, .int x3), (4, .int x4), (5, .int x5), (9, .int x9), (10, .int x10)] [] σ4 K
    obtain ⟨hb5, h⟩ := h
    have h := h (x7 + Int32.ofInt 1) (ia_ok rfl (by decide) hb5)
    generalize (x7 + Int32.ofInt 1) = r5 at h ⊢
    refine z_goto (off := (-127)) (tgt := 31) (pc' := 161) ⟨by decide +kernel, by decide, rfl⟩ ?_
    refine z_sub [2, 3, 4, 5, 6, 7, 1, 0] rfl ?_
    exact f31 _ _ _ _ _ _ _ _ h
  · have h := h.1 (qi_ne_f rfl (by decide) h3)
    refine z_aload_n (f := 0) (i := 0) (q := 1) (pc' := 142) ⟨by decide +kernel, rfl⟩ rfl rfl ?_
    refine w_getr (k := 110) (j := 63) (idx := 139) (pc' := 145) yfxe_13_139 ykfa_110_63 ⟨by decide +kernel, rfl⟩ ?_
    refine z_iconst (i := 0) (v := 0) (pc' := 146) ⟨by decide +kernel, rfl⟩ (by decide) ?_
    refine w_lald (k := 152) (n := 0) (pc' := 147) ykaa_152 (by decide) (by decide) ⟨by decide +kernel, rfl⟩ ?_
    refine z_l2i (pc' := 148) ⟨by decide +kernel, rfl⟩ rfl ?_
    obtain ⟨hb6, h⟩ := h
    have h := h (Int64.toInt32 (σ2.2 152 0)) (li_ok hb6)
    generalize (Int64.toInt32 (σ2.2 152 0)) = r6 at h ⊢
    refine z_goto (off := 4) (tgt := 152) (pc' := 151) ⟨by decide +kernel, by decide, rfl⟩ ?_
    refine w_puti (k := 110) (j := 67) (idx := 707) (pc' := 155) yfxi_13_707 ykfa_110_67 ⟨by decide +kernel, rfl⟩ ?_
    generalize hs7 : zI σ2 110 67 r6 = σ7
    have h := h σ7 hs7
    refine z_iinc (i := 7) (z := 1) (q := 7) (pc' := 158) ⟨by decide +kernel, rfl⟩ rfl rfl (by decide) rfl ?_
    show Wz E Y_M_judge 158 [(7, .int (x7 + Int32.ofInt 1)), (6, .int x10), (0, .ref 110), (1, .int x1), (2, .int x2), (3, .int x3), (4, .int x4), (5, .int x5), (9, .int x9), (10, .int x10)] [] σ7 K
    obtain ⟨hb8, h⟩ := h
    have h := h (x7 + Int32.ofInt 1) (ia_ok rfl (by decide) hb8)
    generalize (x7 + Int32.ofInt 1) = r8 at h ⊢
    refine z_goto (off := (-127)) (tgt := 31) (pc' := 161) ⟨by decide +kernel, by decide, rfl⟩ ?_
    refine z_sub [2, 3, 4, 5, 6, 7, 1, 0] rfl ?_
    exact f31 _ _ _ _ _ _ _ _ h
noncomputable def WB_M_judgeN_31 (F31 : Int32 → Int32 → Int32 → Int32 → Int32 → Int32 → Int32 → zS → (Unit → zS → Prop) → Prop) (x1 : Int32) (x2 : Int32) (x3 : Int32) (x4 : Int32) (x5 : Int32) (x6 : Int32) (x7 : Int32) (σ : zS) (Q : Unit → zS → Prop) : Prop := ((Int32.toInt x1) = (-4) → (Q () σ)) ∧ (¬ (Int32.toInt x1) = (-4) → (∃ n2 : Nat, Int32.toInt x1 = (n2 : Int) ∧ n2 < 8 ∧ (((Int32.toInt (σ.1 131 n2)) ≤ (Int32.toInt x7) → (Q () σ)) ∧ (¬ (Int32.toInt (σ.1 131 n2)) ≤ (Int32.toInt x7) → ((-2147483648 ≤ 30 * (Int32.toInt x1) ∧ 30 * (Int32.toInt x1) ≤ 2147483647) ∧ ∀ r4 : Int32, r4.toInt = 30 * (Int32.toInt x1) → ((-2147483648 ≤ (Int32.toInt r4) + (Int32.toInt x7) ∧ (Int32.toInt r4) + (Int32.toInt x7) ≤ 2147483647) ∧ ∀ r5 : Int32, r5.toInt = (Int32.toInt r4) + (Int32.toInt x7) → (W_M_says r5 x2 x3 x4 x5 σ (fun v6 σ6 => ((Int32.toInt v6) < 0 → ((-2147483648 ≤ (Int32.toInt x7) + 1 ∧ (Int32.toInt x7) + 1 ≤ 2147483647) ∧ ∀ r8 : Int32, r8.toInt = (Int32.toInt x7) + 1 → (F31 x1 x2 x3 x4 x5 x6 r8 σ6 Q))) ∧ (¬ (Int32.toInt v6) < 0 → ((-2147483648 ≤ (Int32.toInt (σ6.1 110 68)) + 1 ∧ (Int32.toInt (σ6.1 110 68)) + 1 ≤ 2147483647) ∧ ∀ r9 : Int32, r9.toInt = (Int32.toInt (σ6.1 110 68)) + 1 → (∀ σ10 : zS, zI σ6 110 68 r9 = σ10 → (W_M_placeOf r5 v6 (σ10.1 130 n2) σ10 (fun v11 σ11 => ((Int32.toInt (σ11.1 110 66)) = (-4) → (W_M_judgeN_b118 F31 x1 x2 x3 x4 x5 x7 v6 v11 σ11 Q)) ∧ (¬ (Int32.toInt (σ11.1 110 66)) = (-4) → (((Int32.toInt x6) ≤ (Int32.toInt v11) → ((-2147483648 ≤ (Int32.toInt x7) + 1 ∧ (Int32.toInt x7) + 1 ≤ 2147483647) ∧ ∀ r14 : Int32, r14.toInt = (Int32.toInt x7) + 1 → (F31 x1 x2 x3 x4 x5 x6 r14 σ11 Q))) ∧ (¬ (Int32.toInt x6) ≤ (Int32.toInt v11) → (W_M_judgeN_b118 F31 x1 x2 x3 x4 x5 x7 v6 v11 σ11 Q)))))))))))))))))
theorem sh_M_judgeN_31 {E : xV} {σ : zS} {K : zKt} {F31 : Int32 → Int32 → Int32 → Int32 → Int32 → Int32 → Int32 → zS → (Unit → zS → Prop) → Prop} {x1 : Int32} {x2 : Int32} {x3 : Int32} {x4 : Int32} {x5 : Int32} {x6 : Int32} {x7 : Int32} {Q : Unit → zS → Prop} (f31 : ∀ (x1 : Int32) (x2 : Int32) (x3 : Int32) (x4 : Int32) (x5 : Int32) (x6 : Int32) (x7 : Int32) (σ : zS), F31 x1 x2 x3 x4 x5 x6 x7 σ Q → Wz E Y_M_judge 31 [(0, .ref 110), (1, .int x1), (2, .int x2), (3, .int x3), (4, .int x4), (5, .int x5), (6, .int x6), (7, .int x7)] [] σ K) (k : ∀ v s, Q v s → K none s) (h : WB_M_judgeN_31 F31 x1 x2 x3 x4 x5 x6 x7 σ Q) : Wz E Y_M_judge 31 [(0, .ref 110), (1, .int x1), (2, .int x2), (3, .int x3), (4, .int x4), (5, .int x5), (6, .int x6), (7, .int x7)] [] σ K := by
  unfold WB_M_judgeN_31 at h
  refine z_iload_n (f := 1) (i := 1) (q := 1) (pc' := 32) ⟨by decide +kernel, rfl⟩ rfl rfl ?_
  refine z_bipush (i := (-4)) (v := (-4)) (pc' := 34) ⟨by decide +kernel, rfl⟩ (by decide) ?_
  refine z_icmp_eq (off := 127) (tgt := 161) (pc' := 37) ⟨by decide +kernel, by decide, rfl⟩ (fun h1 => ?_) (fun h1 => ?_)
  · have h := h.1 (qi_eq_t rfl (by decide) h1)
    exact z_vret rfl (by decide +kernel) (k _ _ h)
  · have h := h.2 (qi_eq_f rfl (by decide) h1)
    refine z_iload (i := 7) (q := 7) (pc' := 39) ⟨by decide +kernel, rfl⟩ rfl ?_
    refine z_aload_n (f := 0) (i := 0) (q := 0) (pc' := 40) ⟨by decide +kernel, rfl⟩ rfl rfl ?_
    refine w_getr (k := 110) (j := 34) (idx := 76) (pc' := 43) yfxe_13_76 ykfa_110_34 ⟨by decide +kernel, rfl⟩ ?_
    refine z_iload_n (f := 1) (i := 1) (q := 1) (pc' := 44) ⟨by decide +kernel, rfl⟩ rfl rfl ?_
    obtain ⟨n2, hi2, hz2, h⟩ := h
    refine w_iald (k := 131) (n := n2) (pc' := 45) ykaa_131 (hi2) (hz2) ⟨by decide +kernel, rfl⟩ ?_
    refine z_icmp_ge (off := 116) (tgt := 161) (pc' := 48) ⟨by decide +kernel, by decide, rfl⟩ (fun h3 => ?_) (fun h3 => ?_)
    · have h := h.1 (qi_ge_t rfl rfl h3)
      exact z_vret rfl (by decide +kernel) (k _ _ h)
    · have h := h.2 (qi_ge_f rfl rfl h3)
      refine z_bipush (i := 30) (v := 30) (pc' := 50) ⟨by decide +kernel, rfl⟩ (by decide) ?_
      refine z_iload_n (f := 1) (i := 1) (q := 1) (pc' := 51) ⟨by decide +kernel, rfl⟩ rfl rfl ?_
      refine z_imul (pc' := 52) ⟨by decide +kernel, rfl⟩ ?_
      obtain ⟨hb4, h⟩ := h
      have h := h (30 * x1) (im_ok (by decide) rfl hb4)
      generalize (30 * x1) = r4 at h ⊢
      refine z_iload (i := 7) (q := 7) (pc' := 54) ⟨by decide +kernel, rfl⟩ rfl ?_
      refine z_iadd (pc' := 55) ⟨by decide +kernel, rfl⟩ ?_
      obtain ⟨hb5, h⟩ := h
      have h := h (r4 + x7) (ia_ok rfl rfl hb5)
      generalize (r4 + x7) = r5 at h ⊢
      refine z_istore (i := 8) (pc' := 57) ⟨by decide +kernel, rfl⟩ (by decide) rfl ?_
      show Wz E Y_M_judge 57 [(8, .int r5), (0, .ref 110), (1, .int x1), (2, .int x2), (3, .int x3), (4, .int x4), (5, .int x5), (6, .int x6), (7, .int x7)] [] σ K
      refine z_aload_n (f := 0) (i := 0) (q := 1) (pc' := 58) ⟨by decide +kernel, rfl⟩ rfl rfl ?_
      refine z_iload (i := 8) (q := 0) (pc' := 60) ⟨by decide +kernel, rfl⟩ rfl ?_
      refine z_iload_n (f := 2) (i := 2) (q := 3) (pc' := 61) ⟨by decide +kernel, rfl⟩ rfl rfl ?_
      refine z_iload_n (f := 3) (i := 3) (q := 4) (pc' := 62) ⟨by decide +kernel, rfl⟩ rfl rfl ?_
      refine z_iload (i := 4) (q := 5) (pc' := 64) ⟨by decide +kernel, rfl⟩ rfl ?_
      refine z_iload (i := 5) (q := 6) (pc' := 66) ⟨by decide +kernel, rfl⟩ rfl ?_
      refine w_invV (Z := Y_M_says) (idx := 713) (kb := 110) (As := [.int r5, .int x2, .int x3, .int x4, .int x5]) (rest := []) (pc' := 69) cl_13_713 rfl ⟨rfl, rfl⟩ ykfa_110_0 rfl ⟨⟨by decide, by decide⟩, rfl, rfl⟩ ⟨by decide +kernel, rfl⟩ rfl rfl (Nat.le_of_ble_eq_true rfl) rfl rfl ?_
      refine sF_M_says h (fun v6 σ6 h => ?_)
      show Wz E Y_M_judge 69 [(8, .int r5), (0, .ref 110), (1, .int x1), (2, .int x2), (3, .int x3), (4, .int x4), (5, .int x5), (6, .int x6), (7, .int x7)] [.int v6] σ6 K
      refine z_istore (i := 9) (pc' := 71) ⟨by decide +kernel, rfl⟩ (by decide) rfl ?_
      show Wz E Y_M_judge 71 [(9, .int v6), (8, .int r5), (0, .ref 110), (1, .int x1), (2, .int x2), (3, .int x3), (4, .int x4), (5, .int x5), (6, .int x6), (7, .int x7)] [] σ6 K
      refine z_iload (i := 9) (q := 0) (pc' := 73) ⟨by decide +kernel, rfl⟩ rfl ?_
      refine z_if_lt (off := 82) (tgt := 155) (pc' := 76) ⟨by decide +kernel, by decide, rfl⟩ (fun h7 => ?_) (fun h7 => ?_)
      · have h := h.1 (qi_lt_t rfl (by decide) h7)
        refine z_iinc (i := 7) (z := 1) (q := 9) (pc' := 158) ⟨by decide +kernel, rfl⟩ rfl rfl (by decide) rfl ?_
        show Wz E Y_M_judge 158 [(7, .int (x7 + Int32.ofInt 1)), (9, .int v6), (8, .int r5), (0, .ref 110), (1, .int x1), (2, .int x2), (3, .int x3), (4, .int x4), (5, .int x5), (6, .int x6)] [] σ6 K
        obtain ⟨hb8, h⟩ := h
        have h := h (x7 + Int32.ofInt 1) (ia_ok rfl (by decide) hb8)
        generalize (x7 + Int32.ofInt 1) = r8 at h ⊢
        refine z_goto (off := (-127)) (tgt := 31) (pc' := 161) ⟨by decide +kernel, by decide, rfl⟩ ?_
        refine z_sub [3, 4, 5, 6, 7, 8, 9, 0] rfl ?_
        exact f31 _ _ _ _ _ _ _ _ h
      · have h := h.2 (qi_lt_f rfl (by decide) h7)
        refine z_aload_n (f := 0) (i := 0) (q := 2) (pc' := 77) ⟨by decide +kernel, rfl⟩ rfl rfl ?_
        refine z_dupr (pc' := 78) ⟨by decide +kernel, rfl⟩ ?_
        refine w_geti (k := 110) (j := 68) (idx := 710) (pc' := 81) yfxe_13_710 ykfa_110_68 ⟨by decide +kernel, rfl⟩ ?_
        refine z_iconst (i := 1) (v := 1) (pc' := 82) ⟨by decide +kernel, rfl⟩ (by decide) ?_
        refine z_iadd (pc' := 83) ⟨by decide +kernel, rfl⟩ ?_
        obtain ⟨hb9, h⟩ := h
        have h := h ((σ6.1 110 68) + 1) (ia_ok rfl (by decide) hb9)
        generalize ((σ6.1 110 68) + 1) = r9 at h ⊢
        refine w_puti (k := 110) (j := 68) (idx := 710) (pc' := 86) yfxi_13_710 ykfa_110_68 ⟨by decide +kernel, rfl⟩ ?_
        generalize hs10 : zI σ6 110 68 r9 = σ10
        have h := h σ10 hs10
        refine z_aload_n (f := 0) (i := 0) (q := 2) (pc' := 87) ⟨by decide +kernel, rfl⟩ rfl rfl ?_
        refine z_iload (i := 8) (q := 1) (pc' := 89) ⟨by decide +kernel, rfl⟩ rfl ?_
        refine z_iload (i := 9) (q := 0) (pc' := 91) ⟨by decide +kernel, rfl⟩ rfl ?_
        refine z_aload_n (f := 0) (i := 0) (q := 2) (pc' := 92) ⟨by decide +kernel, rfl⟩ rfl rfl ?_
        refine w_getr (k := 110) (j := 33) (idx := 73) (pc' := 95) yfxe_13_73 ykfa_110_33 ⟨by decide +kernel, rfl⟩ ?_
        refine z_iload_n (f := 1) (i := 1) (q := 3) (pc' := 96) ⟨by decide +kernel, rfl⟩ rfl rfl ?_
        refine w_iald (k := 130) (n := n2) (pc' := 97) ykaa_130 (hi2) (hz2) ⟨by decide +kernel, rfl⟩ ?_
        refine w_invV (Z := Y_M_placeOf) (idx := 717) (kb := 110) (As := [.int r5, .int v6, .int (σ10.1 130 n2)]) (rest := []) (pc' := 100) cl_13_717 rfl ⟨rfl, rfl⟩ ykfa_110_0 rfl ⟨⟨by decide, by decide⟩, rfl, rfl⟩ ⟨by decide +kernel, rfl⟩ rfl rfl (Nat.le_of_ble_eq_true rfl) rfl rfl ?_
        refine sF_M_placeOf h (fun v11 σ11 h => ?_)
        show Wz E Y_M_judge 100 [(9, .int v6), (8, .int r5), (0, .ref 110), (1, .int x1), (2, .int x2), (3, .int x3), (4, .int x4), (5, .int x5), (6, .int x6), (7, .int x7)] [.int v11] σ11 K
        refine z_istore (i := 10) (pc' := 102) ⟨by decide +kernel, rfl⟩ (by decide) rfl ?_
        show Wz E Y_M_judge 102 [(10, .int v11), (9, .int v6), (8, .int r5), (0, .ref 110), (1, .int x1), (2, .int x2), (3, .int x3), (4, .int x4), (5, .int x5), (6, .int x6), (7, .int x7)] [] σ11 K
        refine z_aload_n (f := 0) (i := 0) (q := 3) (pc' := 103) ⟨by decide +kernel, rfl⟩ rfl rfl ?_
        refine w_geti (k := 110) (j := 66) (idx := 704) (pc' := 106) yfxe_13_704 ykfa_110_66 ⟨by decide +kernel, rfl⟩ ?_
        refine z_bipush (i := (-4)) (v := (-4)) (pc' := 108) ⟨by decide +kernel, rfl⟩ (by decide) ?_
        refine z_icmp_eq (off := 10) (tgt := 118) (pc' := 111) ⟨by decide +kernel, by decide, rfl⟩ (fun h12 => ?_) (fun h12 => ?_)
        · have h := h.1 (qi_eq_t rfl (by decide) h12)
          refine z_sub [3, 4, 5, 6, 7, 8, 10, 1, 0] rfl ?_
          exact sb_M_judgeN_118 f31 k h
        · have h := h.2 (qi_eq_f rfl (by decide) h12)
          refine z_iload (i := 10) (q := 0) (pc' := 113) ⟨by decide +kernel, rfl⟩ rfl ?_
          refine z_iload (i := 6) (q := 9) (pc' := 115) ⟨by decide +kernel, rfl⟩ rfl ?_
          refine z_icmp_ge (off := 40) (tgt := 155) (pc' := 118) ⟨by decide +kernel, by decide, rfl⟩ (fun h13 => ?_) (fun h13 => ?_)
          · have h := h.1 (qi_ge_t rfl rfl h13)
            refine z_iinc (i := 7) (z := 1) (q := 10) (pc' := 158) ⟨by decide +kernel, rfl⟩ rfl rfl (by decide) rfl ?_
            show Wz E Y_M_judge 158 [(7, .int (x7 + Int32.ofInt 1)), (10, .int v11), (9, .int v6), (8, .int r5), (0, .ref 110), (1, .int x1), (2, .int x2), (3, .int x3), (4, .int x4), (5, .int x5), (6, .int x6)] [] σ11 K
            obtain ⟨hb14, h⟩ := h
            have h := h (x7 + Int32.ofInt 1) (ia_ok rfl (by decide) hb14)
            generalize (x7 + Int32.ofInt 1) = r14 at h ⊢
            refine z_goto (off := (-127)) (tgt := 31) (pc' := 161) ⟨by decide +kernel, by decide, rfl⟩ ?_
            refine z_sub [4, 5, 6, 7, 8, 9, 10, 0] rfl ?_
            exact f31 _ _ _ _ _ _ _ _ h
          · have h := h.2 (qi_ge_f rfl rfl h13)
            refine z_sub [3, 4, 5, 6, 7, 8, 10, 1, 0] rfl ?_
            exact sb_M_judgeN_118 f31 k h
noncomputable def WL_M_judgeN : Nat → (Int32 → Int32 → Int32 → Int32 → Int32 → Int32 → Int32 → zS → (Unit → zS → Prop) → Prop)
  | 0 => fun _ _ _ _ _ _ _ _ _ => False
  | n + 1 => WB_M_judgeN_31 (WL_M_judgeN n)
theorem wl_M_judgeN_31 {n : Nat} {x1 : Int32} {x2 : Int32} {x3 : Int32} {x4 : Int32} {x5 : Int32} {x6 : Int32} {x7 : Int32} {σ : zS} {Q : Unit → zS → Prop} (h : WB_M_judgeN_31 (WL_M_judgeN n) x1 x2 x3 x4 x5 x6 x7 σ Q) : (WL_M_judgeN (n + 1)) x1 x2 x3 x4 x5 x6 x7 σ Q := h
theorem sl_M_judgeN {E : xV} {K : zKt} {Q : Unit → zS → Prop} (k : ∀ v s, Q v s → K none s) : ∀ n, (∀ (x1 : Int32) (x2 : Int32) (x3 : Int32) (x4 : Int32) (x5 : Int32) (x6 : Int32) (x7 : Int32) (σ : zS), (WL_M_judgeN n) x1 x2 x3 x4 x5 x6 x7 σ Q → Wz E Y_M_judge 31 [(0, .ref 110), (1, .int x1), (2, .int x2), (3, .int x3), (4, .int x4), (5, .int x5), (6, .int x6), (7, .int x7)] [] σ K)
  | 0 => fun _ _ _ _ _ _ _ _ h => h.elim
  | n + 1 => by
    have i := sl_M_judgeN (E := E)  k n
    exact fun _ _ _ _ _ _ _ _ h => sh_M_judgeN_31 i k h
noncomputable def W_M_judgeN (a1 : Int32) (a2 : Int32) (a3 : Int32) (a4 : Int32) (a5 : Int32) (σ : zS) (Q : Unit → zS → Prop) : Prop := W_M_begins  σ (fun _ σ1 => ∀ σ2 : zS, zI σ1 110 65 0 = σ2 → (∀ σ3 : zS, zI σ2 110 66 (-4) = σ3 → (∀ σ4 : zS, zI σ3 110 67 0 = σ4 → (∀ σ5 : zS, zI σ4 110 68 0 = σ5 → ((WL_M_judgeN fuF) a1 a2 a3 a4 a5 0 0 σ5 Q)))))
theorem sF_M_judgeN {E : xV} {σ : zS} {K : zKt} {a1 : Int32} {a2 : Int32} {a3 : Int32} {a4 : Int32} {a5 : Int32} {Q : Unit → zS → Prop} (h : W_M_judgeN a1 a2 a3 a4 a5 σ Q) (k : ∀ v s, Q v s → K none s) : Cz E Y_M_judge [.ref 110, .int a1, .int a2, .int a3, .int a4, .int a5] σ K := by
  refine z_entry (by decide) (fun a => by rw [sl_len]; exact Nat.le_of_ble_eq_true rfl) rfl ?_
  unfold W_M_judgeN at h
  refine z_aload_n (f := 0) (i := 0) (q := 0) (pc' := 1) ⟨by decide +kernel, rfl⟩ rfl rfl ?_
  refine w_invV (Z := Y_M_begins) (idx := 476) (kb := 110) (As := []) (rest := []) (pc' := 4) cl_13_476 rfl ⟨rfl, rfl⟩ ykfa_110_0 rfl ⟨⟨by decide, by decide⟩, rfl, rfl⟩ ⟨by decide +kernel, rfl⟩ rfl rfl (Nat.le_of_ble_eq_true rfl) rfl rfl ?_
  refine sF_M_begins h (fun _ σ1 h => ?_)
  show Wz E Y_M_judge 4 [(0, .ref 110), (1, .int a1), (2, .int a2), (3, .int a3), (4, .int a4), (5, .int a5)] [] σ1 K
  refine z_aload_n (f := 0) (i := 0) (q := 0) (pc' := 5) ⟨by decide +kernel, rfl⟩ rfl rfl ?_
  refine z_iconst (i := 0) (v := 0) (pc' := 6) ⟨by decide +kernel, rfl⟩ (by decide) ?_
  refine w_puti (k := 110) (j := 65) (idx := 701) (pc' := 9) yfxi_13_701 ykfa_110_65 ⟨by decide +kernel, rfl⟩ ?_
  generalize hs2 : zI σ1 110 65 0 = σ2
  have h := h σ2 hs2
  refine z_aload_n (f := 0) (i := 0) (q := 0) (pc' := 10) ⟨by decide +kernel, rfl⟩ rfl rfl ?_
  refine z_bipush (i := (-4)) (v := (-4)) (pc' := 12) ⟨by decide +kernel, rfl⟩ (by decide) ?_
  refine w_puti (k := 110) (j := 66) (idx := 704) (pc' := 15) yfxi_13_704 ykfa_110_66 ⟨by decide +kernel, rfl⟩ ?_
  generalize hs3 : zI σ2 110 66 (-4) = σ3
  have h := h σ3 hs3
  refine z_aload_n (f := 0) (i := 0) (q := 0) (pc' := 16) ⟨by decide +kernel, rfl⟩ rfl rfl ?_
  refine z_iconst (i := 0) (v := 0) (pc' := 17) ⟨by decide +kernel, rfl⟩ (by decide) ?_
  refine w_puti (k := 110) (j := 67) (idx := 707) (pc' := 20) yfxi_13_707 ykfa_110_67 ⟨by decide +kernel, rfl⟩ ?_
  generalize hs4 : zI σ3 110 67 0 = σ4
  have h := h σ4 hs4
  refine z_aload_n (f := 0) (i := 0) (q := 0) (pc' := 21) ⟨by decide +kernel, rfl⟩ rfl rfl ?_
  refine z_iconst (i := 0) (v := 0) (pc' := 22) ⟨by decide +kernel, rfl⟩ (by decide) ?_
  refine w_puti (k := 110) (j := 68) (idx := 710) (pc' := 25) yfxi_13_710 ykfa_110_68 ⟨by decide +kernel, rfl⟩ ?_
  generalize hs5 : zI σ4 110 68 0 = σ5
  have h := h σ5 hs5
  refine z_iconst (i := 0) (v := 0) (pc' := 26) ⟨by decide +kernel, rfl⟩ (by decide) ?_
  refine z_istore (i := 6) (pc' := 28) ⟨by decide +kernel, rfl⟩ (by decide) rfl ?_
  show Wz E Y_M_judge 28 [(6, .int 0), (0, .ref 110), (1, .int a1), (2, .int a2), (3, .int a3), (4, .int a4), (5, .int a5)] [] σ5 K
  refine z_iconst (i := 0) (v := 0) (pc' := 29) ⟨by decide +kernel, rfl⟩ (by decide) ?_
  refine z_istore (i := 7) (pc' := 31) ⟨by decide +kernel, rfl⟩ (by decide) rfl ?_
  show Wz E Y_M_judge 31 [(7, .int 0), (6, .int 0), (0, .ref 110), (1, .int a1), (2, .int a2), (3, .int a3), (4, .int a4), (5, .int a5)] [] σ5 K
  refine z_sub [2, 3, 4, 5, 6, 7, 1, 0] rfl ?_
  exact (sl_M_judgeN k fuF) _ _ _ _ _ _ _ _ h
/-! ===== N35: both judges are called: their contracts ===== -/
section N35
variable {E : xV} {σ : zS} {K : zKt}
theorem bgm_l {Q1 Q2 : Unit → zS → Prop} (m : ∀ s, Q1 () s → Q2 () s) : ∀ (N : Nat) (x : Int32) (ρ : zS), WL_M_begins N x ρ Q1 → WL_M_begins N x ρ Q2
  | 0, _, _, h => h.elim
  | N + 1, x, ρ, h => ⟨fun c s e => m _ (h.1 c s e), fun c => ⟨(h.2 c).1, fun r3 h3 => by
    obtain ⟨n, a, b, cc⟩ := (h.2 c).2 r3 h3
    exact ⟨n, a, b, fun s5 e5 => ⟨(cc s5 e5).1, fun r6 h6 => bgm_l m N _ _ ((cc s5 e5).2 r6 h6)⟩⟩⟩⟩
theorem bgm {Q1 Q2 : Unit → zS → Prop} (m : ∀ s, Q1 () s → Q2 () s) (h : W_M_begins σ Q1) : W_M_begins σ Q2 := ⟨fun c s2 e2 s3 e3 s4 e4 => bgm_l m _ _ _ (h.1 c s2 e2 s3 e3 s4 e4), fun c => m _ (h.2 c)⟩
theorem sF_Ju_answer {po act asked : Int32} {Q : Int32 → zS → Prop} (h : W_Ju_answer po act asked σ Q) (k : ∀ v s, Q v s → K (some (.int v)) s) : Cz E Y_Ju_answer [.ref 27, .int po, .int act, .int asked] σ K := by
  rcases h with ⟨h1, h2⟩ | ⟨p, N, g, x, ⟨c1, c2, c3, c4, c5, c6, c7, c8, c9, c10, c11⟩, kk⟩
  · exact cz_Ju_answer_n rfl h1 (k _ _ h2)
  · exact cz_Ju_answer rfl c1 c2 c3 c4 c5 c6 c7 c8 c9 c10 c11 (fun τ' a b f d => k _ _ (kk τ' a b f d))
theorem sF_M_judge {po who act th t : Int32} {Q : Unit → zS → Prop} (h : W_M_judge po who act th t σ Q) (k : ∀ v s, Q v s → K none s) : Cz E Y_M_judge [.ref 110, .int po, .int who, .int act, .int th, .int t] σ K := by
  rcases h with ⟨h1, h2⟩ | ⟨p, N, un, an, rk, g, x, ⟨c1, c2, c3, c4, c5, c6, c7, c8, c9, c10, c11, c12, c13, c14, c15⟩, kk⟩
  · refine sF_M_judgeN (bgm (fun s q s2 e2 s3 e3 s4 e4 s5 e5 => ?_) h2) k
    obtain ⟨N, hN⟩ : ∃ N, fuF = N + 1 := ⟨99999, by show 100000 = 99999 + 1; decide⟩
    rw [hN]
    refine wl_M_judgeN_31 ⟨fun _ => ?_, fun z => absurd h1 z⟩
    subst e5 e4 e3 e2
    exact q
  · exact cz_M_judge rfl c1 c2 c3 c4 c5 c6 c7 c8 c9 c10 c11 c12 c13 c14 c15 (fun τ' b f d => k _ _ (kk τ' b f d))
theorem sF_M_keeps {po : Int32} {Q : Int32 → zS → Prop} (h : W_M_keeps po σ Q) (k : ∀ v s, Q v s → K (some (.int v)) s) : Cz E Y_M_keeps [.ref 110, .int po] σ K := by
  rcases h with ⟨p, n, ⟨c1, c2, c3, c4⟩, kk⟩ | ⟨c1, kk⟩
  · exact cz_M_keeps c1 c2 c3 c4 (fun τ' m => k _ _ (kk τ' m))
  · exact cz_M_keeps_n c1 (fun τ' m => k _ _ (kk τ' m))
end N35

end
end
