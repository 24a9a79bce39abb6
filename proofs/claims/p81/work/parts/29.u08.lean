section
section
/-! ===== two contracts of one method hold together ===== -/
/-- two states that hold the same wherever something lies -/
noncomputable def AgZ (σ τ : zS) : Prop := (∀ k j, k < 215 → ((((KD k).1 = 100 ∨ (KD k).1 = 102) ∧ j < (KD k).2.headD 0) ∨ ((KD k).1 < 100 ∧ (KD k).2[j]? = some 0)) → σ.1 k j = τ.1 k j) ∧ (∀ k j, k < 215 → (((KD k).1 = 101 ∧ j < (KD k).2.headD 0) ∨ ((KD k).1 < 100 ∧ (KD k).2[j]? = some 1)) → σ.2 k j = τ.2 k j)
theorem AgZ.rf {σ : zS} : AgZ σ σ := ⟨fun _ _ _ _ => rfl, fun _ _ _ _ => rfl⟩
theorem AgZ.sy {σ τ : zS} (h : AgZ σ τ) : AgZ τ σ := ⟨fun k j a b => (h.1 k j a b).symm, fun k j a b => (h.2 k j a b).symm⟩
theorem AgZ.tr {σ τ υ : zS} (h : AgZ σ τ) (h' : AgZ τ υ) : AgZ σ υ := ⟨fun k j a b => (h.1 k j a b).trans (h'.1 k j a b), fun k j a b => (h.2 k j a b).trans (h'.2 k j a b)⟩
/-- an object's class has at least the fields that KD tells -/
noncomputable def kdOk : Bool := (List.range 215).all fun k => bif Nat.blt (KD k).1 100 then (match cls[(KD k).1]? with
  | some r => Nat.ble (KD k).2.length r.2.2
  | none => false) else true
theorem kd_ok : kdOk = true := by decide +kernel
theorem kd_at {k : Nat} (hk : k < 215) (hc : (KD k).1 < 100) : ∃ r, cls[(KD k).1]? = some r ∧ (KD k).2.length ≤ r.2.2 := by
  have h := List.all_eq_true.mp kd_ok k (List.mem_range.mpr hk)
  rw [show Nat.blt (KD k).1 100 = true from Nat.ble_eq_true_of_le hc, cond_true] at h
  cases hr : cls[(KD k).1]? with
  | none => rw [hr] at h; cases h
  | some r => rw [hr] at h; exact ⟨r, rfl, Nat.le_of_ble_eq_true h⟩
theorem arr_eq {c : ClassId} {n j : Nat} {f g : Nat → Value} (h : arrV c n f = arrV c n g) (hj : j < n) : f j = g j := by
  have h1 := arrV_read c f hj
  rw [h, arrV_read c g hj] at h1
  exact (Option.some.inj h1).symm
theorem xH_ag {E : xV} {a b : Nat → Nat} {σ τ : zS} {H : Heap} (hab : ∀ i, i < 215 → b i = a i) (h1 : xH E a 215 (zx σ) H) (h2 : xH E b 215 (zx τ) H) : AgZ σ τ := by
  have key : ∀ k, k < 215 → va_at E.2.1.1 cls (a k, xE E.2.1 a (KD k) (σ.1 k) (σ.2 k) (RF k)) H ∧ va_at E.2.1.1 cls (a k, xE E.2.1 b (KD k) (τ.1 k) (τ.2 k) (RF k)) H := by
    intro k hk
    refine ⟨h1.2.2.2.2 k _ (xW_at hk), ?_⟩
    have := h2.2.2.2.2 k _ (xW_at hk)
    rw [show xc E.2.1 b (zx τ) k = (a k, xE E.2.1 b (KD k) (τ.1 k) (τ.2 k) (RF k)) by unfold xc; rw [hab k hk]; rfl] at this
    exact this
  have obj : ∀ k j c, k < 215 → (KD k).1 < 100 → (KD k).2[j]? = some c → xfv a (σ.1 k) (σ.2 k) (RF k) j c = xfv b (τ.1 k) (τ.2 k) (RF k) j c := by
    intro k j c hk hc hj
    obtain ⟨p, q⟩ := key k hk
    unfold xE at p q
    rw [if_pos hc] at p q
    obtain ⟨r, hr, cell, hcell, _, _, hs⟩ := p
    obtain ⟨r', hr', cell', hcell', _, _, hs'⟩ := q
    obtain ⟨r0, hr0, hlen⟩ := kd_at hk hc
    have e1 : r = r0 := Option.some.inj (hr.symm.trans hr0)
    have e2 : r' = r0 := Option.some.inj (hr'.symm.trans hr0)
    have e3 : cell' = cell := Option.some.inj (hcell'.symm.trans hcell)
    subst e1 e2 e3
    have hjl : j < (KD k).2.length := by
      rcases Nat.lt_or_ge j (KD k).2.length with q | q
      · exact q
      · rw [List.getElem?_eq_none q] at hj; cases hj
    have v1 := hs j (by omega)
    have v2 := hs' j (by omega)
    rw [v1] at v2
    have v3 := Option.some.inj v2
    unfold vp_V at v3
    rw [List.getD_eq_getElem?_getD, List.getD_eq_getElem?_getD, xF_at _ 0 j hj, xF_at _ 0 j hj, Nat.zero_add] at v3
    exact v3
  refine ⟨fun k j hk h => ?_, fun k j hk h => ?_⟩
  · rcases h with ⟨hc, hj⟩ | ⟨hc, hj⟩
    · obtain ⟨p, q⟩ := key k hk
      rcases hc with hc | hc
      · unfold xE at p q
        rw [if_neg (by omega), if_pos hc] at p q
        have e := Option.some.inj (Eq.trans (Eq.symm (show H[a k]? = some _ from p)) (show H[a k]? = some _ from q))
        rw [vp_cell_i, vp_cell_i] at e
        have := arr_eq e hj
        injection this
      · unfold xE at p q
        rw [if_neg (by omega), if_neg (by omega), if_neg (by omega), if_pos hc] at p q
        have e := Option.some.inj (Eq.trans (Eq.symm (show H[a k]? = some _ from p)) (show H[a k]? = some _ from q))
        rw [vp_cell_i, vp_cell_i] at e
        have := arr_eq e hj
        injection this
    · have := obj k j 0 hk hc hj
      injection this
  · rcases h with ⟨hc, hj⟩ | ⟨hc, hj⟩
    · obtain ⟨p, q⟩ := key k hk
      unfold xE at p q
      rw [if_neg (by omega), if_neg (by omega), if_pos hc] at p q
      have e := Option.some.inj (Eq.trans (Eq.symm (show H[a k]? = some _ from p)) (show H[a k]? = some _ from q))
      rw [vp_cell_l, vp_cell_l] at e
      have := arr_eq e hj
      injection this
    · have := obj k j 1 hk hc hj
      injection this
/-- an answer that is no reference -/
noncomputable def noR (v : Option Value) : Prop := ∀ i, v ≠ some (.ref i)
theorem xrel_no {a b : Nat → Nat} {v w : Option Value} (hv : noR v) (h : v.map (xrel a) = w.map (xrel b)) : w = v := by
  cases v with
  | none => cases w with
    | none => rfl
    | some w => cases h
  | some v =>
    cases w with
    | none => cases h
    | some w =>
      have h := Option.some.inj h
      cases v <;> cases w <;> simp only [xrel] at h <;> first | rfl | (rw [h]; done) | (cases h; done) | (exact absurd rfl (hv _)) | skip
theorem Cz.and {E : xV} {Y : xY} {av : List Value} {σ : zS} {K L : zKt} (h1 : Cz E Y av σ K) (h2 : Cz E Y av σ L) (hn : ∀ v σ', K v σ' → noR v) : Cz E Y av σ (fun v σ' => K v σ' ∧ ∃ τ, AgZ σ' τ ∧ L v τ) := by
  intro a p e ha hc hk s m args below hf happ hP hK
  obtain ⟨n, o, w, r, e1, q, hL⟩ := h1 a p e ha hc hk s m args below hf happ hP hK
  obtain ⟨n', o', w', r', e1', q', hL'⟩ := h2 a p e ha hc hk s m args below hf happ hP hK
  have hu := the_end_unique (f := fun k => stepsAlone p.tables e k s) w e1 w' e1'
  obtain ⟨hu1, hu2⟩ := hu
  subst hu1 hu2
  refine ⟨n, o, w, r, e1, ?_, hL⟩
  obtain ⟨v, n1, s1, a1, g1, g2, g3, ⟨g4, σ1, g5, g6⟩, g7, g8⟩ := q
  obtain ⟨v', n1', s1', a1', g1', g2', g3', ⟨g4', σ1', g5', g6'⟩, g7', g8'⟩ := q'
  subst g4 g4' g5 g5'
  have hv : v' = v := by
    have := g1.symm.trans g1'
    injection this with this
    exact xrel_no (hn _ _ g6) this
  subst hv
  exact ⟨v', 215, zx σ1, a1, g1, g2, g3, ⟨rfl, σ1, rfl, g6, σ1', xH_ag (fun i hi => (g3' i (Or.inl hi)).trans (g3 i (Or.inl hi)).symm) g7 g7', g6'⟩, g7, g8⟩
theorem arr_cg {c : ClassId} {n : Nat} {f g : Nat → Value} (h : ∀ j, j < n → f j = g j) : arrV c n f = arrV c n g := by
  have e : (fun j : Fin n => f j.val) = fun j => g j.val := funext fun j => h j.val j.isLt
  unfold arrV
  rw [e]
theorem va_ag {E : xV} {a : Nat → Nat} {σ τ : zS} {H : Heap} {k : Nat} (hag : AgZ σ τ) (hk : k < 215) (h : va_at E.2.1.1 cls (xc E.2.1 a (zx σ) k) H) : va_at E.2.1.1 cls (xc E.2.1 a (zx τ) k) H := by
  have h : va_at E.2.1.1 cls (a k, xE E.2.1 a (KD k) (σ.1 k) (σ.2 k) (RF k)) H := h
  show va_at E.2.1.1 cls (a k, xE E.2.1 a (KD k) (τ.1 k) (τ.2 k) (RF k)) H
  unfold xE at h ⊢
  by_cases hc : (KD k).1 < 100
  · rw [if_pos hc] at h ⊢
    obtain ⟨r, hr, hb⟩ := h
    refine ⟨r, hr, hb.to (fun i _ => ?_)⟩
    unfold vp_V
    rw [List.getD_eq_getElem?_getD, List.getD_eq_getElem?_getD]
    cases hi : (KD k).2[i]? with
    | none =>
      have hl : (KD k).2.length ≤ i := List.getElem?_eq_none_iff.mp hi
      rw [List.getElem?_eq_none (by rw [xF_len]; exact hl), List.getElem?_eq_none (by rw [xF_len]; exact hl)]
    | some c =>
      rw [xF_at _ 0 i hi, xF_at _ 0 i hi, Nat.zero_add]
      match c, hi with
      | 0, hi => show Value.int (σ.1 k i) = Value.int (τ.1 k i); rw [hag.1 k i hk (Or.inr ⟨hc, hi⟩)]
      | 1, hi => show Value.long (σ.2 k i) = Value.long (τ.2 k i); rw [hag.2 k i hk (Or.inr ⟨hc, hi⟩)]
      | c + 2, hi => rfl
  · rw [if_neg hc] at h ⊢
    by_cases h0 : (KD k).1 = 100
    · rw [if_pos h0] at h ⊢
      have h : H[a k]? = some (vp_cell _ _) := h
      show H[a k]? = some (vp_cell _ _)
      rw [h, vp_cell_i, vp_cell_i]
      exact congrArg some (arr_cg fun j hj => by rw [hag.1 k j hk (Or.inl ⟨Or.inl h0, hj⟩)])
    · rw [if_neg h0] at h ⊢
      by_cases h1 : (KD k).1 = 101
      · rw [if_pos h1] at h ⊢
        have h : H[a k]? = some (vp_cell _ _) := h
        show H[a k]? = some (vp_cell _ _)
        rw [h, vp_cell_l, vp_cell_l]
        exact congrArg some (arr_cg fun j hj => by rw [hag.2 k j hk (Or.inl ⟨h1, hj⟩)])
      · rw [if_neg h1] at h ⊢
        by_cases h2 : (KD k).1 = 102
        · rw [if_pos h2] at h ⊢
          have h : H[a k]? = some (vp_cell _ _) := h
          show H[a k]? = some (vp_cell _ _)
          rw [h, vp_cell_i, vp_cell_i]
          exact congrArg some (arr_cg fun j hj => by rw [hag.1 k j hk (Or.inl ⟨Or.inr h2, hj⟩)])
        · rw [if_neg h2] at h ⊢
          exact h
/-- a state that holds the same serves as well -/
theorem Cz.ag {E : xV} {Y : xY} {av : List Value} {σ τ : zS} {K : zKt} (hag : AgZ σ τ) (h : Cz E Y av τ K) : Cz E Y av σ K := by
  intro a
  refine MetFree.mono (h a) ?_ (fun _ _ _ _ _ q => q) (fun _ _ _ _ _ q => q)
  intro args U ⟨h1, hx, h3⟩
  refine ⟨h1, ⟨hx.1, hx.2.1, hx.2.2.1, hx.2.2.2.1, ?_⟩, h3⟩
  intro k q hq
  obtain ⟨hk, rfl⟩ := xW_inv hq
  exact va_ag hag hk (hx.2.2.2.2 k _ (xW_at hk))
/-! ===== steps over fields and rows, by the tables (for walks by hand) ===== -/
noncomputable abbrev G0 : Gl := mkG [] []
theorem G0_ok : GOk Yf G0 := (G_ok (fun _ _ _ => [], (fun _ _ _ => [], (fun _ _ _ _ => none, (fun _ _ _ _ => none, (fun _ => false, fun _ _ => false))))) (fun _ _ _ => none) [] (fun _ _ => false)).1
/-- a field by its class's number in the pool -/
noncomputable def FxE (c : String) (x ci j : Nat) : Prop := ∃ ty fin, xFl c x ci j ty fin
noncomputable def FxI (c : String) (x ci j : Nat) : Prop := xFl c x ci j .int false
noncomputable def FxZ (c : String) (x ci j : Nat) : Prop := xFl c x ci j .boolean false
noncomputable def FxJ (c : String) (x ci j : Nat) : Prop := xFl c x ci j .long false
theorem fx_e {m x ci j t : Nat} {c : String} (hc : (Yf m).1.cls = c) (hx : x < 4096) (h : t_fld.get (G0.own m * 4096 + x) = some (ci, (j, t))) : FxE c x ci j := by
  subst hc
  obtain ⟨_, ty, fin, h1, _⟩ := G0_ok.fld m x ci j t hx h
  exact ⟨ty, fin, h1⟩
theorem fx_i {m x ci j : Nat} {c : String} (hc : (Yf m).1.cls = c) (hx : x < 4096) (h : t_fld.get (G0.own m * 4096 + x) = some (ci, (j, 0))) : FxI c x ci j := by
  subst hc
  obtain ⟨_, ty, fin, h1, h2, _⟩ := G0_ok.fld m x ci j 0 hx h
  obtain ⟨rfl, rfl⟩ := h2 rfl
  exact h1
theorem fx_z {m x ci j : Nat} {c : String} (hc : (Yf m).1.cls = c) (hx : x < 4096) (h : t_fld.get (G0.own m * 4096 + x) = some (ci, (j, 1))) : FxZ c x ci j := by
  subst hc
  obtain ⟨_, ty, fin, h1, _, h2, _⟩ := G0_ok.fld m x ci j 1 hx h
  obtain ⟨rfl, rfl⟩ := h2 rfl
  exact h1
theorem fx_j {m x ci j : Nat} {c : String} (hc : (Yf m).1.cls = c) (hx : x < 4096) (h : t_fld.get (G0.own m * 4096 + x) = some (ci, (j, 2))) : FxJ c x ci j := by
  subst hc
  obtain ⟨_, ty, fin, h1, _, _, h2⟩ := G0_ok.fld m x ci j 2 hx h
  obtain ⟨rfl, rfl⟩ := h2 rfl
  exact h1
/-- a field of a thing that lies there: its kind, what it refers to -/
noncomputable def KfA (k j ci kd t : Nat) : Prop := k < 215 ∧ ci < 100 ∧ (∃ l, KD k = (ci, l) ∧ l[j]? = some kd) ∧ (kd = 2 → RF k j = t + 1)
theorem kf_a {k j ci kd t : Nat} (hj : j < 1024) (h : t_kf.get (k * 1024 + j) = some (ci, (kd, t))) : KfA k j ci kd t := by
  obtain ⟨h1, h2, h3, h4, _⟩ := G0_ok.kf k j ci kd t hj h
  exact ⟨h1, h2, h3, h4⟩
noncomputable def KaA (k kd z : Nat) : Prop := k < 215 ∧ KD k = (kd, [z]) ∧ z ≤ 100000
theorem ka_a {k kd z : Nat} (h : t_ka.get k = some (kd, z)) : KaA k kd z := G0_ok.ka k kd z h
section K81
variable {E : xV} {Y : xY} {pc pc' : Nat} {lv : List (Nat × Value)} {st : List Value} {σ : zS} {K : zKt}
theorem w_geti {k j idx ci t : Nat} (F : FxE Y.1.cls idx ci j) (h : KfA k j ci 0 t) (d : decode Y.2.1 pc = .ok (.getfield idx, 3) ∧ pc + 3 = pc') (kk : Wz E Y pc' lv (.int (σ.1 k j) :: st) σ K) : Wz E Y pc lv (.ref k :: st) σ K := by
  obtain ⟨ty, fin, F⟩ := F
  obtain ⟨h1, h2, ⟨l, h3, h4⟩, _⟩ := h
  exact z_geti F h1 h3 h2 h4 d kk
theorem w_getj {k j idx ci t : Nat} (F : FxE Y.1.cls idx ci j) (h : KfA k j ci 1 t) (d : decode Y.2.1 pc = .ok (.getfield idx, 3) ∧ pc + 3 = pc') (kk : Wz E Y pc' lv (.long (σ.2 k j) :: st) σ K) : Wz E Y pc lv (.ref k :: st) σ K := by
  obtain ⟨ty, fin, F⟩ := F
  obtain ⟨h1, h2, ⟨l, h3, h4⟩, _⟩ := h
  exact z_getj F h1 h3 h2 h4 d kk
theorem w_getr {k j idx ci t : Nat} (F : FxE Y.1.cls idx ci j) (h : KfA k j ci 2 t) (d : decode Y.2.1 pc = .ok (.getfield idx, 3) ∧ pc + 3 = pc') (kk : Wz E Y pc' lv (.ref t :: st) σ K) : Wz E Y pc lv (.ref k :: st) σ K := by
  obtain ⟨ty, fin, F⟩ := F
  obtain ⟨h1, h2, ⟨l, h3, h4⟩, h5⟩ := h
  exact z_getr F h1 h3 h2 h4 (h5 rfl) d kk
theorem w_puti {k j idx ci t : Nat} {v : Int32} (F : FxI Y.1.cls idx ci j) (h : KfA k j ci 0 t) (d : decode Y.2.1 pc = .ok (.putfield idx, 3) ∧ pc + 3 = pc') (kk : Wz E Y pc' lv st (zI σ k j v) K) : Wz E Y pc lv (.int v :: .ref k :: st) σ K := by
  obtain ⟨h1, h2, ⟨l, h3, h4⟩, _⟩ := h
  exact z_puti F h1 h3 h2 h4 rfl rfl d kk
theorem w_putz {k j idx ci t : Nat} {v : Int32} (F : FxZ Y.1.cls idx ci j) (h : KfA k j ci 0 t) (hv : v = 0 ∨ v = 1) (d : decode Y.2.1 pc = .ok (.putfield idx, 3) ∧ pc + 3 = pc') (kk : Wz E Y pc' lv st (zI σ k j v) K) : Wz E Y pc lv (.int v :: .ref k :: st) σ K := by
  obtain ⟨h1, h2, ⟨l, h3, h4⟩, _⟩ := h
  rcases hv with rfl | rfl
  · exact z_puti F h1 h3 h2 h4 (by decide) (by decide) d kk
  · exact z_puti F h1 h3 h2 h4 (by decide) (by decide) d kk
theorem in_a {i : Int32} {z n : Nat} (h : i.toInt = n) (hn : n < z) : vp_in i z := by
  have h1 : i.toNatClampNeg = n := by rw [Int32.toNatClampNeg]; omega
  have h2 : (0 : Int32).toInt = 0 := by decide
  intro q
  rcases q with q | q
  · rw [Int32.lt_iff_toInt_lt, h2] at q; omega
  · omega
theorem cl_a {i : Int32} {n : Nat} (h : i.toInt = n) : i.toNatClampNeg = n := by rw [Int32.toNatClampNeg]; omega
theorem w_iald {k z n : Nat} {i : Int32} (h : KaA k 100 z) (hi : i.toInt = n) (hn : n < z) (d : decode Y.2.1 pc = .ok (.iaload, 1) ∧ pc + 1 = pc') (kk : Wz E Y pc' lv (.int (σ.1 k n) :: st) σ K) : Wz E Y pc lv (.int i :: .ref k :: st) σ K :=
  z_iald h.1 h.2.1 (in_a hi hn) d (by rw [cl_a hi]; exact kk)
theorem w_zald {k z n : Nat} {i : Int32} (h : KaA k 102 z) (hi : i.toInt = n) (hn : n < z) (d : decode Y.2.1 pc = .ok (.baload, 1) ∧ pc + 1 = pc') (kk : Wz E Y pc' lv (.int (σ.1 k n) :: st) σ K) : Wz E Y pc lv (.int i :: .ref k :: st) σ K :=
  z_zald h.1 h.2.1 (in_a hi hn) d (by rw [cl_a hi]; exact kk)
theorem w_lald {k z n : Nat} {i : Int32} (h : KaA k 101 z) (hi : i.toInt = n) (hn : n < z) (d : decode Y.2.1 pc = .ok (.laload, 1) ∧ pc + 1 = pc') (kk : Wz E Y pc' lv (.long (σ.2 k n) :: st) σ K) : Wz E Y pc lv (.int i :: .ref k :: st) σ K :=
  z_lald h.1 h.2.1 (in_a hi hn) d (by rw [cl_a hi]; exact kk)
theorem w_iast {k z n : Nat} {i x : Int32} (h : KaA k 100 z) (hi : i.toInt = n) (hn : n < z) (d : decode Y.2.1 pc = .ok (.iastore, 1) ∧ pc + 1 = pc') (kk : Wz E Y pc' lv st (zI σ k n x) K) : Wz E Y pc lv (.int x :: .int i :: .ref k :: st) σ K :=
  z_iast h.1 h.2.1 (in_a hi hn) d (by rw [cl_a hi]; exact kk)
theorem w_zast {k z n : Nat} {i x : Int32} (h : KaA k 102 z) (hi : i.toInt = n) (hn : n < z) (hx : x = 0 ∨ x = 1) (d : decode Y.2.1 pc = .ok (.bastore, 1) ∧ pc + 1 = pc') (kk : Wz E Y pc' lv st (zI σ k n x) K) : Wz E Y pc lv (.int x :: .int i :: .ref k :: st) σ K :=
  z_zast h.1 h.2.1 (in_a hi hn) d (by
    rw [cl_a hi, show vp_nar .boolean x = x by rcases hx with rfl | rfl <;> decide]; exact kk)
theorem w_last {k z n : Nat} {i : Int32} {x : Int64} (h : KaA k 101 z) (hi : i.toInt = n) (hn : n < z) (d : decode Y.2.1 pc = .ok (.lastore, 1) ∧ pc + 1 = pc') (kk : Wz E Y pc' lv st (zJ σ k n x) K) : Wz E Y pc lv (.long x :: .int i :: .ref k :: st) σ K :=
  z_last h.1 h.2.1 (in_a hi hn) d (by rw [cl_a hi]; exact kk)
/-- a call by the tables -/
theorem w_invV {Z : xY} {x z idx kb ci j kd t nA : Nat} {As rest : List Value} (hC : CallOk x (z, (nA, false))) (hZ : Yf z = Z) (hx : cname (x / 4096) = Y.1.cls ∧ x % 4096 = idx) (h : KfA kb j ci kd t) (hcn : (cls[ci]?.map fun q => q.1) = some Z.1.cls) (hrm : zRm Y Z) (d : decode Y.2.1 pc = .ok (.invokevirtual idx, 3) ∧ pc + 3 = pc') (hA : As.length = nA) (hst : st = As.reverse ++ .ref kb :: rest) (hcat : (rest.map fun v => v.category).sum ≤ 8) (hlv : (lv.all fun q => xokv 215 q.2) = true) (hrs : (rest.all (xokv 215)) = true)
    (kk : Cz E Z (.ref kb :: As) σ (fun v σ' => Wz E Y pc' lv (v.toList ++ rest) σ' K)) : Wz E Y pc lv st σ K := by
  obtain ⟨h1, h2, ⟨l, h3, h4⟩, _⟩ := h
  obtain ⟨c1, _, c3⟩ := hC
  obtain ⟨⟨c4, c5⟩, _⟩ := c3 rfl
  rw [hx.1, hx.2, hZ] at c1
  rw [hZ] at c4 c5
  exact z_invV c1 c4 c5 h1 h3 h2 hcn hrm d hA hst hcat hlv hrs kk
theorem w_invS {Z : xY} {x z idx nA : Nat} {As rest : List Value} (hC : CallOk x (z, (nA, true))) (hZ : Yf z = Z) (hx : cname (x / 4096) = Y.1.cls ∧ x % 4096 = idx) (hrm : zRm Y Z) (d : decode Y.2.1 pc = .ok (.invokestatic idx, 3) ∧ pc + 3 = pc') (hA : As.length = nA) (hst : st = As.reverse ++ rest) (hcat : (rest.map fun v => v.category).sum ≤ 8) (hlv : (lv.all fun q => xokv 215 q.2) = true) (hrs : (rest.all (xokv 215)) = true)
    (kk : Cz E Z As σ (fun v σ' => Wz E Y pc' lv (v.toList ++ rest) σ' K)) : Wz E Y pc lv st σ K := by
  obtain ⟨c1, c2, _⟩ := hC
  have c2 := c2 rfl
  rw [hx.1, hx.2, hZ] at c1
  rw [hZ] at c2
  exact z_invS c1 c2 hrm d hA hst hcat hlv hrs kk
end K81
/-! ===== what a state holds behind a write ===== -/
theorem yI_at {σ : zS} {k j : Nat} {v : Int32} : (zI σ k j v).1 k j = v := by
  show (xup σ.1 k (upd (σ.1 k) j v)) k j = v
  rw [xup_same]; unfold upd; simp
theorem yI_ne {σ : zS} {k j k' j' : Nat} {v : Int32} (h : ¬ (k' = k ∧ j' = j)) : (zI σ k j v).1 k' j' = σ.1 k' j' := by
  show (xup σ.1 k (upd (σ.1 k) j v)) k' j' = σ.1 k' j'
  by_cases e : k' = k
  · subst e
    rw [xup_same]; unfold upd
    rw [if_neg (fun q => h ⟨rfl, q⟩)]
  · rw [xup_ne e]
theorem yI_l {σ : zS} {k j : Nat} {v : Int32} : (zI σ k j v).2 = σ.2 := rfl
theorem yJ_at {σ : zS} {k j : Nat} {v : Int64} : (zJ σ k j v).2 k j = v := by
  show (xup σ.2 k (vp_updL (σ.2 k) j v)) k j = v
  rw [xup_same]; unfold vp_updL; simp
theorem yJ_ne {σ : zS} {k j k' j' : Nat} {v : Int64} (h : ¬ (k' = k ∧ j' = j)) : (zJ σ k j v).2 k' j' = σ.2 k' j' := by
  show (xup σ.2 k (vp_updL (σ.2 k) j v)) k' j' = σ.2 k' j'
  by_cases e : k' = k
  · subst e
    rw [xup_same]; unfold vp_updL
    rw [if_neg (fun q => h ⟨rfl, q⟩)]
  · rw [xup_ne e]
theorem yJ_i {σ : zS} {k j : Nat} {v : Int64} : (zJ σ k j v).1 = σ.1 := rfl

end
end
section
section
/-! ===== THE JUDGE, 80: what codes mean ===== -/
/-- what lies on the stack: 0 whole, 1 real, 2 unknown, 3 fail, 4 true, 5 false -/
noncomputable abbrev EntJ : Type := Nat × Int
/-- loads (by the reference's code and value); an item at a place; minus; + - * / %; comparisons; in; known -/
noncomputable abbrev EvJ : Type := (Nat → Int → EntJ) × ((Int → Int → EntJ) × ((EntJ → EntJ) × ((Nat → EntJ → EntJ → EntJ) × ((Int → EntJ → EntJ → EntJ) × ((Int → Int → EntJ) × (Int → EntJ))))))
noncomputable abbrev EvJ.ld (E : EvJ) : Nat → Int → EntJ := E.1
noncomputable abbrev EvJ.pa (E : EvJ) : Int → Int → EntJ := E.2.1
noncomputable abbrev EvJ.ng (E : EvJ) : EntJ → EntJ := E.2.2.1
noncomputable abbrev EvJ.ar (E : EvJ) : Nat → EntJ → EntJ → EntJ := E.2.2.2.1
noncomputable abbrev EvJ.cp (E : EvJ) : Int → EntJ → EntJ → EntJ := E.2.2.2.2.1
noncomputable abbrev EvJ.mg (E : EvJ) : Int → Int → EntJ := E.2.2.2.2.2.1
noncomputable abbrev EvJ.kn (E : EvJ) : Int → EntJ := E.2.2.2.2.2.2
/-- what they come to -/
noncomputable def EvJ.ok (E : EvJ) : Prop := (∀ c v, (E.ld c v).1 ≤ 3) ∧ (∀ f v, (E.pa f v).1 ≤ 3) ∧ (∀ x, x.1 ≤ 1 → (E.ng x).1 ≤ 1) ∧ (∀ c x y, (E.ar c x y).1 ≤ 3 ∧ (E.ar c x y).1 ≠ 2) ∧ (∀ c x y, (E.cp c x y).1 = 4 ∨ (E.cp c x y).1 = 5) ∧ (∀ f v, 2 ≤ (E.mg f v).1 ∧ (E.mg f v).1 ≤ 5) ∧ ∀ f, (E.kn f).1 = 4 ∨ (E.kn f).1 = 5
noncomputable def twJ9 (f : EntJ → EntJ → EntJ) (x y : EntJ) : EntJ := if 2 ≤ x.1 then x else if 2 ≤ y.1 then y else f x y
noncomputable def onJ9 (f : Int → EntJ) (x : EntJ) : EntJ := if 2 ≤ x.1 then x else if x.1 = 1 then (3, 4) else f x.2
noncomputable def jn9 (w s : Nat) (a b : EntJ) : EntJ := if a.1 = 3 ∨ a.1 = s then a else if a.1 = 2 ∧ b.1 = w then (2, 0) else b
noncomputable def nt9 (x : EntJ) : EntJ := if x.1 = 4 then (5, x.2) else if x.1 = 5 then (4, x.2) else x
/-- one step of the reference -/
noncomputable def mst9 (E : EvJ) (c : Nat × Int) (S : List EntJ) : List EntJ :=
  if c.1 = 5 then (match S with | x :: S => onJ9 (E.pa c.2) x :: S | [] => [])
  else if c.1 = 7 then (match S with | x :: S => (if 2 ≤ x.1 then x else E.ng x) :: S | [] => [])
  else if c.1 < 7 then E.ld c.1 c.2 :: S
  else if c.1 < 13 then (match S with | y :: x :: S => twJ9 (E.ar c.1) x y :: S | _ => [])
  else if c.1 = 13 then (match S with | y :: x :: S => twJ9 (E.cp c.2) x y :: S | _ => [])
  else if c.1 = 14 then (match S with | x :: S => onJ9 (E.mg c.2) x :: S | [] => [])
  else if c.1 = 15 then E.kn c.2 :: S
  else if c.1 = 16 then (match S with | x :: S => nt9 x :: S | [] => [])
  else if c.1 = 17 then (match S with | y :: x :: S => jn9 4 5 x y :: S | _ => [])
  else (match S with | y :: x :: S => jn9 5 4 x y :: S | _ => [])
noncomputable def mrun9 (E : EvJ) : List (Nat × Int) → List EntJ → List EntJ
  | [], S => S
  | c :: L, S => mrun9 E L (mst9 E c S)
/-- the class's rows: op, number -/
noncomputable abbrev CwJ : Type := Nat → Nat × Int
noncomputable def isCm (o : Nat) : Bool := Nat.ble 13 o && Nat.ble o 19
/-- the next comparison from i on (e: none) -/
noncomputable def eoc9 (R : CwJ) (e : Nat) : Nat → Nat → Nat
  | 0, _ => e
  | n + 1, i => if i < e then (if isCm (R i).1 then i else eoc9 R e n (i + 1)) else e
/-- the class's op as a load of the reference: 4 size, 5 item -/
noncomputable def lod9 (o : Nat) : Nat := if o = 4 then 6 else if o = 5 then 4 else o
/-- what an op of sums comes to, and what is left of the values: none where there are too few -/
noncomputable def cop9 (E : EvJ) (o : Nat) (x : Int) (V : List EntJ) : Option (EntJ × List EntJ) :=
  if o < 6 then some (E.ld (lod9 o) x, V)
  else if o = 6 then (match V with | a :: V => some (onJ9 (E.pa x) a, V) | [] => none)
  else if o = 7 then (match V with | a :: V => some (E.ng a, V) | [] => none)
  else if o < 13 then (match V with | b :: a :: V => some (E.ar o a b, V) | _ => none)
  else if o < 19 then (match V with | b :: a :: V => some (E.cp ((o : Int) - 13) a b, V) | _ => none)
  else (match V with | a :: V => some (onJ9 (E.mg x) a, V) | [] => none)
/-- where a skip goes on; all turned round -/
noncomputable def skJ9 (R : CwJ) (i : Nat) (T : List EntJ) : Nat := match T with
  | t :: _ => if t.1 = (if (R i).1 = 24 then 5 else 4) then max i ((R i).2 - 1).toNat + 1 else i + 1
  | [] => i + 1
noncomputable def nts9 (T : List EntJ) : List EntJ := match T with
  | t :: T => nt9 t :: T
  | [] => []
/-- the class's run, with room on both stacks -/
noncomputable def cr9 (E : EvJ) (R : CwJ) (e : Nat) : Nat → Nat → List EntJ → List EntJ → Option EntJ
  | 0, _, _, _ => none
  | n + 1, i, V, T =>
    if i < e then
      (if 24 ≤ (R i).1 then cr9 E R e n (skJ9 R i T) V T
      else if (R i).1 = 20 then (if T.length < 64 then cr9 E R e n (i + 1) V (E.kn (R i).2 :: T) else none)
      else if (R i).1 = 21 then cr9 E R e n (i + 1) V (nts9 T)
      else if 22 ≤ (R i).1 then (match T with
          | b :: a :: T => cr9 E R e n (i + 1) V ((if a.1 = 2 ∧ b.1 = (if (R i).1 = 22 then 4 else 5) then (2, 0) else b) :: T)
          | _ => none)
      else match cop9 E (R i).1 (R i).2 V with
        | none => none
        | some (x, W) =>
          if W.length < 64 ∧ T.length < 64 then
            (if x.1 = 3 then some x
            else if x.1 = 2 then cr9 E R e n (eoc9 R e e i + 1) [] ((2, 0) :: T)
            else if isCm (R i).1 then cr9 E R e n (i + 1) W (x :: T)
            else cr9 E R e n (i + 1) (x :: W) T)
          else none)
    else (match T with | t :: _ => some t | [] => some (4, 0))
/-- it comes to r -/
noncomputable def Cr9 (E : EvJ) (R : CwJ) (e i : Nat) (V T : List EntJ) (r : EntJ) : Prop := ∃ n, cr9 E R e n i V T = some r
/-- the rows from a to b mean the sum L; the condition L -/
noncomputable def SmV (R : CwJ) (a b : Nat) (L : List (Nat × Int)) (hv : Nat) : Prop := a < b ∧ (∀ j, a ≤ j → j < b → isCm (R j).1 = false) ∧ ∀ E : EvJ, E.ok → ∃ x : EntJ, x.1 ≤ 3 ∧ (∀ S, mrun9 E L S = x :: S) ∧ ∀ e V T, b ≤ e → V.length < 64 ∧ V.length + hv ≤ 64 ∧ T.length < 64 → (x.1 ≤ 1 → ∀ r, Cr9 E R e b (x :: V) T r → Cr9 E R e a V T r) ∧ (x.1 = 3 → Cr9 E R e a V T x) ∧ (x.1 = 2 → ∃ i, a ≤ i ∧ i < b ∧ ∀ r, Cr9 E R e (eoc9 R e e i + 1) [] ((2, 0) :: T) r → Cr9 E R e a V T r)
noncomputable def SmT (R : CwJ) (a b : Nat) (L : List (Nat × Int)) (ht : Nat) : Prop := a < b ∧ ∀ E : EvJ, E.ok → ∃ x : EntJ, (2 ≤ x.1 ∧ x.1 ≤ 5) ∧ (∀ S, mrun9 E L S = x :: S) ∧ ∀ e T, b ≤ e → T.length < 64 ∧ T.length + ht ≤ 64 → (x.1 = 3 → Cr9 E R e a [] T x) ∧ (x.1 ≠ 3 → ∀ r, Cr9 E R e b [] ((x.1, if x.1 = 2 then 0 else x.2) :: T) r → Cr9 E R e a [] T r)
section J80
variable {E : EvJ} {R : CwJ} {e : Nat}
theorem mrun_app (L M : List (Nat × Int)) (S : List EntJ) : mrun9 E (L ++ M) S = mrun9 E M (mrun9 E L S) := by
  induction L generalizing S with
  | nil => rfl
  | cons c L ih => exact ih (mst9 E c S)
theorem cr_up : ∀ {n i : Nat} {V T : List EntJ} {r : EntJ}, cr9 E R e n i V T = some r → cr9 E R e (n + 1) i V T = some r
  | 0, _, _, _, _, h => by cases h
  | n + 1, i, V, T, r, h => by
    unfold cr9 at h ⊢
    by_cases h1 : i < e
    · rw [if_pos h1] at h ⊢
      by_cases h2 : 24 ≤ (R i).1
      · rw [if_pos h2] at h ⊢; exact cr_up h
      · rw [if_neg h2] at h ⊢
        by_cases h3 : (R i).1 = 20
        · rw [if_pos h3] at h ⊢
          by_cases hl : T.length < 64
          · rw [if_pos hl] at h ⊢; exact cr_up h
          · rw [if_neg hl] at h; cases h
        · rw [if_neg h3] at h ⊢
          by_cases h4 : (R i).1 = 21
          · rw [if_pos h4] at h ⊢; exact cr_up h
          · rw [if_neg h4] at h ⊢
            by_cases h5 : 22 ≤ (R i).1
            · rw [if_pos h5] at h ⊢
              cases T with
              | nil => exact h
              | cons b T =>
                cases T with
                | nil => exact h
                | cons a T => exact cr_up h
            · rw [if_neg h5] at h ⊢
              cases hc : cop9 E (R i).1 (R i).2 V with
              | none => rw [hc] at h; exact h
              | some q =>
                rw [hc] at h
                obtain ⟨x, W⟩ := q
                dsimp only at h ⊢
                by_cases hl : W.length < 64 ∧ T.length < 64
                · rw [if_pos hl] at h ⊢
                  by_cases h6 : x.1 = 3
                  · rw [if_pos h6] at h ⊢; exact h
                  · rw [if_neg h6] at h ⊢
                    by_cases h7 : x.1 = 2
                    · rw [if_pos h7] at h ⊢; exact cr_up h
                    · rw [if_neg h7] at h ⊢
                      by_cases h8 : isCm (R i).1 = true
                      · rw [if_pos h8] at h ⊢; exact cr_up h
                      · rw [if_neg h8] at h ⊢; exact cr_up h
                · rw [if_neg hl] at h; cases h
    · rw [if_neg h1] at h ⊢; exact h
theorem cr_le {n i : Nat} {V T : List EntJ} {r : EntJ} (h : cr9 E R e n i V T = some r) : ∀ k, cr9 E R e (n + k) i V T = some r
  | 0 => h
  | k + 1 => cr_up (cr_le h k)
theorem Cr_det {i : Nat} {V T : List EntJ} {r r' : EntJ} (h : Cr9 E R e i V T r) (h' : Cr9 E R e i V T r') : r = r' := by
  obtain ⟨n, a⟩ := h
  obtain ⟨n', b⟩ := h'
  have a := cr_le a n'
  have b := cr_le b n
  rw [Nat.add_comm n' n] at b
  exact Option.some.inj (a.symm.trans b)
/-- one op of a sum -/
theorem cr_op {i : Nat} {V W T : List EntJ} {x : EntJ} (hi : i < e) (ho : (R i).1 < 20) (hc : cop9 E (R i).1 (R i).2 V = some (x, W)) (hl : W.length < 64 ∧ T.length < 64) : (x.1 = 3 → Cr9 E R e i V T x) ∧ (x.1 = 2 → ∀ r, Cr9 E R e (eoc9 R e e i + 1) [] ((2, 0) :: T) r → Cr9 E R e i V T r) ∧ (x.1 ≠ 3 → x.1 ≠ 2 → isCm (R i).1 = true → ∀ r, Cr9 E R e (i + 1) W (x :: T) r → Cr9 E R e i V T r) ∧ (x.1 ≠ 3 → x.1 ≠ 2 → isCm (R i).1 = false → ∀ r, Cr9 E R e (i + 1) (x :: W) T r → Cr9 E R e i V T r) := by
  have st : ∀ n, cr9 E R e (n + 1) i V T = (if x.1 = 3 then some x else if x.1 = 2 then cr9 E R e n (eoc9 R e e i + 1) [] ((2, 0) :: T) else if isCm (R i).1 then cr9 E R e n (i + 1) W (x :: T) else cr9 E R e n (i + 1) (x :: W) T) := fun n => by
    conv => lhs; unfold cr9
    rw [if_pos hi, if_neg (by omega), if_neg (by omega), if_neg (by omega), if_neg (by omega), hc]
    dsimp only
    rw [if_pos hl]
  refine ⟨fun h => ⟨1, by rw [st 0, if_pos h]⟩, fun h r ⟨n, q⟩ => ⟨n + 1, by rw [st n, if_neg (by omega), if_pos h]; exact q⟩, fun h1 h2 h3 r ⟨n, q⟩ => ⟨n + 1, by rw [st n, if_neg h1, if_neg h2, if_pos h3]; exact q⟩, fun h1 h2 h3 r ⟨n, q⟩ => ⟨n + 1, by rw [st n, if_neg h1, if_neg h2, if_neg (by rw [h3]; decide)]; exact q⟩⟩
end J80
/-! ===== THE JUDGE, 81: how meanings are put together ===== -/
section J81
variable {E : EvJ} {R : CwJ} {e : Nat}
theorem eoc_at {c : Nat} (hc : isCm (R c).1 = true) (he : c < e) : ∀ {n i : Nat}, (∀ j, i ≤ j → j < c → isCm (R j).1 = false) → i ≤ c → c < i + n → eoc9 R e n i = c
  | 0, i, _, h1, h2 => by omega
  | n + 1, i, h, h1, h2 => by
    unfold eoc9
    rw [if_pos (by omega)]
    by_cases q : i = c
    · rw [q, if_pos hc]
    · rw [if_neg (by rw [h i (Nat.le_refl i) (by omega)]; decide)]
      exact eoc_at hc he (fun j a b => h j (by omega) b) (by omega) (by omega)
theorem cm_lt {o : Nat} (h : o < 13) : isCm o = false := by
  unfold isCm
  cases q : Nat.ble 13 o with
  | false => rfl
  | true => have := Nat.le_of_ble_eq_true q; omega
theorem cm_ge {o : Nat} (h : 20 ≤ o) : isCm o = false := by
  unfold isCm
  cases q : Nat.ble o 19 with
  | false => rw [Bool.and_false]
  | true => have := Nat.le_of_ble_eq_true q; omega
theorem cm_in {o : Nat} (h : 13 ≤ o) (h2 : o ≤ 19) : isCm o = true := by
  unfold isCm
  rw [Nat.ble_eq_true_of_le h, Nat.ble_eq_true_of_le h2]; rfl
theorem SmV.le {a b : Nat} {L : List (Nat × Int)} {h h' : Nat} (s : SmV R a b L h) (hl : h ≤ h') : SmV R a b L h' := by
  obtain ⟨s1, s2, s3⟩ := s
  refine ⟨s1, s2, fun E hE => ?_⟩
  obtain ⟨x, x1, x2, x3⟩ := s3 E hE
  exact ⟨x, x1, x2, fun e V T he hb => x3 e V T he ⟨hb.1, by omega, hb.2.2⟩⟩
theorem SmT.le {a b : Nat} {L : List (Nat × Int)} {h h' : Nat} (s : SmT R a b L h) (hl : h ≤ h') : SmT R a b L h' := by
  obtain ⟨s1, s3⟩ := s
  refine ⟨s1, fun E hE => ?_⟩
  obtain ⟨x, x1, x2, x3⟩ := s3 E hE
  exact ⟨x, x1, x2, fun e T he hb => x3 e T he ⟨hb.1, by omega⟩⟩
theorem SmV.load {i : Nat} (ho : (R i).1 < 6) : SmV R i (i + 1) [(lod9 (R i).1, (R i).2)] 1 := by
  have hl : lod9 (R i).1 < 7 ∧ lod9 (R i).1 ≠ 5 := by unfold lod9; split <;> (try split) <;> omega
  refine ⟨by omega, fun j a b => ?_, fun E hE => ⟨E.ld (lod9 (R i).1) (R i).2, hE.1 _ _, fun S => ?_, fun e V T he hb => ?_⟩⟩
  · rw [show j = i by omega]; exact cm_lt (by omega)
  · show mst9 E _ S = _
    unfold mst9
    rw [if_neg (by exact hl.2), if_neg (by show lod9 (R i).1 ≠ 7; omega), if_pos (by exact hl.1)]
  · have hc : cop9 E (R i).1 (R i).2 V = some (E.ld (lod9 (R i).1) (R i).2, V) := by unfold cop9; rw [if_pos ho]
    obtain ⟨q1, q2, _, q4⟩ := cr_op (E := E) (R := R) (e := e) (V := V) (T := T) (by omega) (by omega) hc ⟨hb.1, hb.2.2⟩
    exact ⟨fun h r z => q4 (by omega) (by omega) (cm_lt (by omega)) r z, q1, fun h => ⟨i, Nat.le_refl i, by omega, q2 h⟩⟩
/-- behind a sum: an op of one -/
theorem SmV.un {a b : Nat} {L : List (Nat × Int)} {c : Nat × Int} {hv : Nat} (h : SmV R a b L hv) (ho : (R b).1 = 6 ∧ c = (5, (R b).2) ∨ (R b).1 = 7 ∧ c.1 = 7) : SmV R a (b + 1) (L ++ [c]) hv := by
  obtain ⟨h1, h2, h3⟩ := h
  have hb13 : (R b).1 < 13 := by omega
  refine ⟨by omega, fun j x y => ?_, fun E hE => ?_⟩
  · by_cases q : j < b
    · exact h2 j x q
    · rw [show j = b by omega]; exact cm_lt hb13
  obtain ⟨x, x1, x2, x3⟩ := h3 E hE
  have key : ∃ f : EntJ → EntJ, (∀ S, mst9 E c (x :: S) = (if 2 ≤ x.1 then x else f x) :: S) ∧ (x.1 ≤ 1 → (f x).1 ≤ 3 ∧ ∀ V, cop9 E (R b).1 (R b).2 (x :: V) = some (f x, V)) := by
    rcases ho with ⟨o1, o2⟩ | ⟨o1, o2⟩
    · refine ⟨fun x => if x.1 = 1 then (3, 4) else E.pa (R b).2 x.2, fun S => ?_, fun hx => ⟨?_, fun V => ?_⟩⟩
      · rw [o2]; rfl
      · show (if x.1 = 1 then ((3, 4) : EntJ) else E.pa (R b).2 x.2).1 ≤ 3
        split
        · exact Nat.le_refl 3
        · exact hE.2.1 _ _
      · unfold cop9
        rw [if_neg (by omega), if_pos o1]
        show some (onJ9 (E.pa (R b).2) x, V) = _
        unfold onJ9
        rw [if_neg (by omega)]
    · refine ⟨fun x => E.ng x, fun S => ?_, fun hx => ⟨(by show (E.ng x).1 ≤ 3; have := hE.2.2.1 x hx; omega), fun V => ?_⟩⟩
      · unfold mst9
        rw [if_neg (by omega), if_pos o2]
      · unfold cop9
        rw [if_neg (by omega), if_neg (by omega), if_pos o1]
  obtain ⟨f, k1, k2⟩ := key
  refine ⟨if 2 ≤ x.1 then x else f x, ?_, fun S => ?_, fun e V T he hb => ?_⟩
  · split
    · exact x1
    · exact (k2 (by omega)).1
  · rw [mrun_app, x2 S]; exact k1 S
  · obtain ⟨y1, y2, y3⟩ := x3 e V T (by omega) hb
    by_cases hx : 2 ≤ x.1
    · rw [if_pos hx]
      refine ⟨fun q => by omega, y2, fun q => ?_⟩
      obtain ⟨i, i1, i2, i3⟩ := y3 q
      exact ⟨i, i1, by omega, i3⟩
    · rw [if_neg hx]
      obtain ⟨q1, q2, _, q4⟩ := cr_op (E := E) (R := R) (e := e) (i := b) (V := x :: V) (T := T) (by omega) (by omega) ((k2 (by omega)).2 V) ⟨hb.1, hb.2.2⟩
      exact ⟨fun q r z => y1 (by omega) r (q4 (by omega) (by omega) (cm_lt hb13) r z), fun q => y1 (by omega) _ (q1 q), fun q => ⟨b, by omega, by omega, fun r z => y1 (by omega) r (q2 q r z)⟩⟩
/-- two sums and an op: what they come to -/
theorem two_sums {a b c : Nat} {L M : List (Nat × Int)} {hv hv' : Nat} (h : SmV R a b L hv) (h' : SmV R b c M hv') (hp : 1 ≤ hv') (hE : E.ok) : ∃ x y : EntJ, (x.1 ≤ 3 ∧ y.1 ≤ 3) ∧ (∀ S, mrun9 E (L ++ M) S = y :: x :: S) ∧ ∀ e V T, c ≤ e → V.length < 64 ∧ V.length + hv ≤ 64 ∧ V.length + hv' + 1 ≤ 64 ∧ T.length < 64 → (x.1 ≤ 1 → y.1 ≤ 1 → ∀ r, Cr9 E R e c (y :: x :: V) T r → Cr9 E R e a V T r) ∧ (x.1 = 3 → Cr9 E R e a V T x) ∧ (x.1 ≤ 1 → y.1 = 3 → Cr9 E R e a V T y) ∧ ((x.1 = 2 ∨ (x.1 ≤ 1 ∧ y.1 = 2)) → ∃ i, a ≤ i ∧ i < c ∧ ∀ r, Cr9 E R e (eoc9 R e e i + 1) [] ((2, 0) :: T) r → Cr9 E R e a V T r) := by
  obtain ⟨h1, h2, h3⟩ := h
  obtain ⟨g1, g2, g3⟩ := h'
  obtain ⟨x, x1, x2, x3⟩ := h3 E hE
  obtain ⟨y, y1, y2, y3⟩ := g3 E hE
  refine ⟨x, y, ⟨x1, y1⟩, fun S => by rw [mrun_app, x2 S, y2], fun e V T he hb => ?_⟩
  obtain ⟨p1, p2, p3⟩ := x3 e V T (by omega) ⟨hb.1, hb.2.1, hb.2.2.2⟩
  obtain ⟨r1, r2, r3⟩ := y3 e (x :: V) T he ⟨by rw [List.length_cons]; omega, by rw [List.length_cons]; omega, hb.2.2.2⟩
  refine ⟨fun q q' r z => p1 q r (r1 q' r z), p2, fun q q' => p1 q _ (r2 q'), fun q => ?_⟩
  rcases q with q | ⟨q, q'⟩
  · obtain ⟨i, i1, i2, i3⟩ := p3 q
    exact ⟨i, i1, by omega, i3⟩
  · obtain ⟨i, i1, i2, i3⟩ := r3 q'
    exact ⟨i, by omega, i2, fun r z => p1 q r (i3 r z)⟩
theorem SmV.two {a b c o : Nat} {L M : List (Nat × Int)} {v : Int} {hv hv' hw : Nat} (h : SmV R a b L hv) (h' : SmV R b c M hv') (hp : 1 ≤ hv' ∧ hv ≤ hw ∧ hv' + 1 ≤ hw) (ho : (R c).1 = o) (h8 : 8 ≤ o ∧ o ≤ 12) : SmV R a (c + 1) (L ++ M ++ [(o, v)]) hw := by
  refine ⟨by have := h.1; have := h'.1; omega, fun j x y => ?_, fun E hE => ?_⟩
  · by_cases q : j < b
    · exact h.2.1 j x q
    · by_cases q' : j < c
      · exact h'.2.1 j (by omega) q'
      · rw [show j = c by omega]; exact cm_lt (by omega)
  obtain ⟨x, y, ⟨x1, y1⟩, xy, cr⟩ := two_sums h h' hp.1 hE
  refine ⟨twJ9 (E.ar o) x y, ?_, fun S => ?_, fun e V T he hb => ?_⟩
  · unfold twJ9; split
    · exact x1
    · split
      · exact y1
      · exact (hE.2.2.2.1 _ _ _).1
  · rw [mrun_app, xy S]
    show mst9 E (o, v) (y :: x :: S) = _
    unfold mst9
    rw [if_neg (by show o ≠ 5; omega), if_neg (by show o ≠ 7; omega), if_neg (by show ¬ o < 7; omega), if_pos (by show o < 13; omega)]
  · obtain ⟨c1, c2, c3, c4⟩ := cr e V T (by omega) ⟨hb.1, by omega, by omega, hb.2.2⟩
    unfold twJ9
    by_cases hx : 2 ≤ x.1
    · rw [if_pos hx]
      refine ⟨fun q => by omega, c2, fun q => ?_⟩
      obtain ⟨i, i1, i2, i3⟩ := c4 (Or.inl q)
      exact ⟨i, i1, by omega, i3⟩
    · rw [if_neg hx]
      by_cases hy : 2 ≤ y.1
      · rw [if_pos hy]
        refine ⟨fun q => by omega, c3 (by omega), fun q => ?_⟩
        obtain ⟨i, i1, i2, i3⟩ := c4 (Or.inr ⟨by omega, q⟩)
        exact ⟨i, i1, by omega, i3⟩
      · rw [if_neg hy]
        have hc : cop9 E (R c).1 (R c).2 (y :: x :: V) = some (E.ar o x y, V) := by
          unfold cop9; rw [if_neg (by omega), if_neg (by omega), if_neg (by omega), if_pos (by omega), ho]
        obtain ⟨q1, q2, _, q4⟩ := cr_op (E := E) (R := R) (e := e) (i := c) (T := T) (by omega) (by omega) hc ⟨hb.1, hb.2.2⟩
        have n2 := (hE.2.2.2.1 o x y).2
        exact ⟨fun q r z => c1 (by omega) (by omega) r (q4 (by omega) n2 (cm_lt (by omega)) r z), fun q => c1 (by omega) (by omega) _ (q1 q), fun q => absurd q n2⟩
theorem SmT.cmp {a b c k : Nat} {L M : List (Nat × Int)} {hv hv' ht : Nat} (h : SmV R a b L hv) (h' : SmV R b c M hv') (hp : 1 ≤ hv' ∧ hv ≤ 64 ∧ hv' + 1 ≤ 64) (ho : (R c).1 = 13 + k) (hk : k ≤ 5) : SmT R a (c + 1) (L ++ M ++ [(13, (k : Int))]) ht := by
  refine ⟨by have := h.1; have := h'.1; omega, fun E hE => ?_⟩
  obtain ⟨x, y, ⟨x1, y1⟩, xy, cr⟩ := two_sums h h' hp.1 hE
  have hcm : isCm (R c).1 = true := cm_in (by omega) (by omega)
  have hno : ∀ j, a ≤ j → j < c → isCm (R j).1 = false := fun j p q => by
    by_cases z : j < b
    · exact h.2.1 j p z
    · exact h'.2.1 j (by omega) q
  refine ⟨twJ9 (E.cp k) x y, ?_, fun S => ?_, fun e T he hb => ?_⟩
  · unfold twJ9; split
    · omega
    · split
      · omega
      · have := hE.2.2.2.2.1 k x y; omega
  · rw [mrun_app, xy S]
    show mst9 E (13, (k : Int)) (y :: x :: S) = _
    rfl
  · obtain ⟨c1, c2, c3, c4⟩ := cr e [] T (by omega) ⟨by decide, by rw [List.length_nil]; omega, by rw [List.length_nil]; omega, hb.1⟩
    have unk : ((x.1 = 2 ∨ (x.1 ≤ 1 ∧ y.1 = 2))) → ∀ r, Cr9 E R e (c + 1) [] ((2, 0) :: T) r → Cr9 E R e a [] T r := fun q r z => by
      obtain ⟨i, i1, i2, i3⟩ := c4 q
      refine i3 r ?_
      rw [eoc_at hcm (by omega) (fun j p q => hno j (by omega) q) (by omega) (by omega)]
      exact z
    unfold twJ9
    by_cases hx : 2 ≤ x.1
    · rw [if_pos hx]
      refine ⟨c2, fun q r z => ?_⟩
      have ex : x.1 = 2 := by omega
      rw [if_pos ex, ex] at z
      exact unk (Or.inl ex) r z
    · rw [if_neg hx]
      by_cases hy : 2 ≤ y.1
      · rw [if_pos hy]
        refine ⟨c3 (by omega), fun q r z => ?_⟩
        have ey : y.1 = 2 := by omega
        rw [if_pos ey, ey] at z
        exact unk (Or.inr ⟨by omega, ey⟩) r z
      · rw [if_neg hy]
        have hv := hE.2.2.2.2.1 k x y
        have hc : cop9 E (R c).1 (R c).2 (y :: x :: []) = some (E.cp k x y, []) := by
          unfold cop9; rw [if_neg (by omega), if_neg (by omega), if_neg (by omega), if_neg (by omega), if_pos (by omega), ho]
          show some (E.cp (((13 + k : Nat) : Int) - 13) x y, []) = _
          rw [show ((13 + k : Nat) : Int) - 13 = (k : Int) by omega]
        obtain ⟨_, _, q3, _⟩ := cr_op (E := E) (R := R) (e := e) (i := c) (T := T) (by omega) (by omega) hc ⟨by decide, hb.1⟩
        refine ⟨fun q => by omega, fun q r z => ?_⟩
        rw [if_neg (by omega)] at z
        exact c1 (by omega) (by omega) r (q3 (by omega) (by omega) hcm r z)
theorem SmT.among {a b : Nat} {L : List (Nat × Int)} {hv ht : Nat} (h : SmV R a b L hv) (hp : hv ≤ 64) (ho : (R b).1 = 19) : SmT R a (b + 1) (L ++ [(14, (R b).2)]) ht := by
  obtain ⟨h1, h2, h3⟩ := h
  refine ⟨by omega, fun E hE => ?_⟩
  obtain ⟨x, x1, x2, x3⟩ := h3 E hE
  have hcm : isCm (R b).1 = true := cm_in (by omega) (by omega)
  have ev9 : ∀ x : EntJ, x.1 ≤ 3 → 2 ≤ (onJ9 (E.mg (R b).2) x).1 ∧ (onJ9 (E.mg (R b).2) x).1 ≤ 5 := fun x hx => by
    unfold onJ9; split
    · omega
    · split
      · exact ⟨by show 2 ≤ 3; omega, by show 3 ≤ 5; omega⟩
      · exact hE.2.2.2.2.2.1 _ _
  refine ⟨onJ9 (E.mg (R b).2) x, ev9 x x1, fun S => by rw [mrun_app, x2 S]; rfl, fun e T he hb => ?_⟩
  obtain ⟨y1, y2, y3⟩ := x3 e [] T (by omega) ⟨by decide, by rw [List.length_nil]; omega, hb.1⟩
  by_cases hx : 2 ≤ x.1
  · have eo : onJ9 (E.mg (R b).2) x = x := by unfold onJ9; rw [if_pos hx]
    rw [eo]
    refine ⟨y2, fun q r z => ?_⟩
    have ex : x.1 = 2 := by omega
    rw [if_pos ex, ex] at z
    obtain ⟨i, i1, i2, i3⟩ := y3 ex
    refine i3 r ?_
    rw [eoc_at hcm (by omega) (fun j p q => h2 j (by omega) q) (by omega) (by omega)]
    exact z
  · have hc : cop9 E (R b).1 (R b).2 (x :: []) = some (onJ9 (E.mg (R b).2) x, []) := by
      unfold cop9; rw [if_neg (by omega), if_neg (by omega), if_neg (by omega), if_neg (by omega), if_neg (by omega)]
    obtain ⟨q1, q2, q3, _⟩ := cr_op (E := E) (R := R) (e := e) (i := b) (T := T) (by omega) (by omega) hc ⟨by decide, hb.1⟩
    refine ⟨fun q => y1 (by omega) _ (q1 q), fun q r z => y1 (by omega) r ?_⟩
    by_cases q2' : (onJ9 (E.mg (R b).2) x).1 = 2
    · rw [if_pos q2', q2'] at z
      refine q2 q2' r ?_
      rw [eoc_at hcm (by omega) (fun j p q => by omega) (Nat.le_refl b) (by omega)]
      exact z
    · rw [if_neg q2'] at z
      exact q3 q q2' hcm r z
theorem SmT.known {i ht : Nat} (ho : (R i).1 = 20) : SmT R i (i + 1) [(15, (R i).2)] ht := by
  refine ⟨by omega, fun E hE => ⟨E.kn (R i).2, by have := hE.2.2.2.2.2.2 (R i).2; omega, fun S => rfl, fun e T he hb => ?_⟩⟩
  have hk := hE.2.2.2.2.2.2 (R i).2
  refine ⟨fun q => by omega, fun q r ⟨n, z⟩ => ⟨n + 1, ?_⟩⟩
  rw [if_neg (by omega)] at z
  conv => lhs; unfold cr9
  rw [if_pos (by omega), if_neg (by omega), if_pos ho, if_pos hb.1]
  exact z
theorem SmT.not {a b : Nat} {L : List (Nat × Int)} {v : Int} {ht : Nat} (h : SmT R a b L ht) (ho : (R b).1 = 21) : SmT R a (b + 1) (L ++ [(16, v)]) ht := by
  obtain ⟨h1, h3⟩ := h
  refine ⟨by omega, fun E hE => ?_⟩
  obtain ⟨x, x1, x2, x3⟩ := h3 E hE
  have hk : (nt9 x).1 = 3 ↔ x.1 = 3 := by unfold nt9; split <;> (try split) <;> (try dsimp only) <;> omega
  refine ⟨nt9 x, by unfold nt9; split <;> (try split) <;> (try dsimp only) <;> omega, fun S => by rw [mrun_app, x2 S]; rfl, fun e T he hb => ?_⟩
  obtain ⟨y1, y2⟩ := x3 e T (by omega) hb
  refine ⟨fun q => ?_, fun q r ⟨n, z⟩ => y2 (fun t => q (hk.mpr t)) r ⟨n + 1, ?_⟩⟩
  · have e3 := hk.mp q
    have en : nt9 x = x := by unfold nt9; rw [if_neg (by omega), if_neg (by omega)]
    rw [en]; exact y1 e3
  · conv => lhs; unfold cr9
    rw [if_pos (by omega), if_neg (by omega), if_neg (by omega), if_pos ho]
    show cr9 E R e n (b + 1) [] (nt9 (x.1, if x.1 = 2 then 0 else x.2) :: T) = some r
    have en : nt9 (x.1, if x.1 = 2 then 0 else x.2) = ((nt9 x).1, if (nt9 x).1 = 2 then 0 else (nt9 x).2) := by
      unfold nt9
      by_cases e4 : x.1 = 4
      · simp [e4]
      · by_cases e5 : x.1 = 5
        · simp [e5]
        · simp [e4, e5]
    rw [en]; exact z
/-- two conditions, one behind the other: w is what ends it not, s what ends it -/
theorem SmT.join {a b c : Nat} {L M : List (Nat × Int)} {v : Int} {ht ht' hu : Nat} (h : SmT R a b L ht) (h' : SmT R (b + 1) c M ht') (hp : 1 ≤ ht' ∧ ht ≤ hu ∧ ht' + 1 ≤ hu) (hs : (R b).2 = (c : Int) + 1) (ho : ((R b).1 = 24 ∧ (R c).1 = 22) ∨ ((R b).1 = 25 ∧ (R c).1 = 23)) : SmT R a (c + 1) (L ++ M ++ [((R c).1 - 5, v)]) hu := by
  obtain ⟨h1, h3⟩ := h
  obtain ⟨g1, g3⟩ := h'
  refine ⟨by omega, fun E hE => ?_⟩
  obtain ⟨x, x1, x2, x3⟩ := h3 E hE
  obtain ⟨y, y1, y2, y3⟩ := g3 E hE
  obtain ⟨w, s, hw, hws⟩ : ∃ w s : Nat, (w = (if (R c).1 = 22 then 4 else 5) ∧ s = (if (R b).1 = 24 then 5 else 4)) ∧ ((w = 4 ∧ s = 5) ∨ (w = 5 ∧ s = 4)) := by
    rcases ho with ⟨o1, o2⟩ | ⟨o1, o2⟩
    · exact ⟨4, 5, ⟨by rw [if_pos o2], by rw [if_pos o1]⟩, Or.inl ⟨rfl, rfl⟩⟩
    · exact ⟨5, 4, ⟨by rw [if_neg (by omega)], by rw [if_neg (by omega)]⟩, Or.inr ⟨rfl, rfl⟩⟩
  have ms : ∀ S, mst9 E ((R c).1 - 5, v) (y :: x :: S) = jn9 w s x y :: S := fun S => by
    rcases ho with ⟨o1, o2⟩ | ⟨o1, o2⟩
    · have e1 : w = 4 := by rw [hw.1, if_pos o2]
      have e2 : s = 5 := by rw [hw.2, if_pos o1]
      rw [o2, e1, e2]; rfl
    · have e1 : w = 5 := by rw [hw.1, if_neg (by omega)]
      have e2 : s = 4 := by rw [hw.2, if_neg (by omega)]
      rw [o2, e1, e2]; rfl
  refine ⟨jn9 w s x y, ?_, fun S => by rw [mrun_app, mrun_app, x2 S, y2]; exact ms S, fun e T he hb => ?_⟩
  · unfold jn9; split
    · exact x1
    · split
      · exact ⟨Nat.le_refl 2, by show 2 ≤ 5; omega⟩
      · exact y1
  obtain ⟨p1, p2⟩ := x3 e T (by omega) ⟨hb.1, by omega⟩
  -- at the skip
  have sk : ∀ t : EntJ, t.1 ≠ 3 → ∀ r, Cr9 E R e (if t.1 = s then c + 1 else b + 1) [] (t :: T) r → Cr9 E R e b [] (t :: T) r := fun t _ r ⟨n, z⟩ => ⟨n + 1, by
    conv => lhs; unfold cr9
    rw [if_pos (by omega), if_pos (by omega)]
    show cr9 E R e n (if t.1 = (if (R b).1 = 24 then 5 else 4) then max b ((R b).2 - 1).toNat + 1 else b + 1) [] (t :: T) = some r
    rw [← hw.2, hs, show max b ((c : Int) + 1 - 1).toNat + 1 = c + 1 by omega]
    exact z⟩
  have jn : ∀ t u : EntJ, ∀ r, Cr9 E R e (c + 1) [] ((if t.1 = 2 ∧ u.1 = w then (2, 0) else u) :: T) r → Cr9 E R e c [] (u :: t :: T) r := fun t u r ⟨n, z⟩ => ⟨n + 1, by
    conv => lhs; unfold cr9
    rw [if_pos (by omega), if_neg (by omega), if_neg (by omega), if_neg (by omega), if_pos (by omega)]
    show cr9 E R e n (c + 1) [] ((if t.1 = 2 ∧ u.1 = (if (R c).1 = 22 then 4 else 5) then (2, 0) else u) :: T) = some r
    rw [← hw.1]
    exact z⟩
  by_cases hx3 : x.1 = 3
  · have ej : jn9 w s x y = x := by unfold jn9; rw [if_pos (Or.inl hx3)]
    rw [ej]
    exact ⟨p1, fun q => absurd hx3 q⟩
  · by_cases hxs : x.1 = s
    · have ej : jn9 w s x y = x := by unfold jn9; rw [if_pos (Or.inr hxs)]
      rw [ej]
      refine ⟨p1, fun q r z => p2 q r (sk (x.1, if x.1 = 2 then 0 else x.2) q r ?_)⟩
      show Cr9 E R e (if x.1 = s then c + 1 else b + 1) [] _ r
      rw [if_pos hxs]
      exact z
    · have p3 := p2 hx3
      obtain ⟨q1, q2⟩ := y3 e ((x.1, if x.1 = 2 then 0 else x.2) :: T) (by omega) ⟨by rw [List.length_cons]; omega, by rw [List.length_cons]; omega⟩
      have go : ∀ r, Cr9 E R e (b + 1) [] ((x.1, if x.1 = 2 then 0 else x.2) :: T) r → Cr9 E R e a [] T r := fun r z => p3 r (sk (x.1, if x.1 = 2 then 0 else x.2) hx3 r (by show Cr9 E R e (if x.1 = s then c + 1 else b + 1) [] _ r; rw [if_neg hxs]; exact z))
      have ej : jn9 w s x y = if x.1 = 2 ∧ y.1 = w then (2, 0) else y := by unfold jn9; rw [if_neg (by omega)]
      rw [ej]
      by_cases hu : x.1 = 2 ∧ y.1 = w
      · rw [if_pos hu]
        refine ⟨fun q => (by cases q), fun _ r z => go r (q2 (by omega) r (jn (x.1, if x.1 = 2 then 0 else x.2) (y.1, if y.1 = 2 then 0 else y.2) r ?_))⟩
        show Cr9 E R e (c + 1) [] ((if x.1 = 2 ∧ y.1 = w then (2, 0) else (y.1, if y.1 = 2 then 0 else y.2)) :: T) r
        rw [if_pos hu]
        exact z
      · rw [if_neg hu]
        refine ⟨fun q => go _ (q1 q), fun q r z => go r (q2 q r (jn (x.1, if x.1 = 2 then 0 else x.2) (y.1, if y.1 = 2 then 0 else y.2) r ?_))⟩
        show Cr9 E R e (c + 1) [] ((if x.1 = 2 ∧ y.1 = w then (2, 0) else (y.1, if y.1 = 2 then 0 else y.2)) :: T) r
        rw [if_neg hu]
        exact z
end J81
/-! ===== THE JUDGE, 84: what the reference's codes work on ===== -/
/-- a feature's item -/
noncomputable def itJ (σ : zS) (f : Nat) (i : Int) : EntJ := if (σ.1 121 f).toInt = 0 then (2, 0) else if ¬ (0 ≤ i ∧ i ≤ (σ.1 122 f).toInt - 1) then (3, 2) else ((if (σ.1 121 f).toInt = 2 then 1 else 0), (σ.2 123 (20 * f + i.toNat)).toInt)
noncomputable def paJ (σ : zS) (f : Nat) (v : Int) : EntJ := itJ σ f (if 0 ≤ v ∧ v ≤ 19 then v else -1)
noncomputable def hasJ (σ : zS) (f : Nat) (v : Int) : Nat → Bool
  | 0 => false
  | n + 1 => hasJ σ f v n || decide ((σ.2 123 (20 * f + n)).toInt = v)
noncomputable def mgJ (σ : zS) (f : Nat) (v : Int) : EntJ := if (σ.1 121 f).toInt = 0 then (2, 0) else if (σ.1 121 f).toInt ≠ 3 then (3, 4) else if hasJ σ f v (σ.1 122 f).toInt.toNat then (4, 0) else (5, 0)
noncomputable def rlJ (x : EntJ) : Int := if x.1 = 0 then oneF (OwR x.2) else x.2
noncomputable def woJ (c : Nat) (x y : Int64) : Int64 := if c = 8 then x + y else if c = 9 then x - y else if c = 10 then x * y else if c = 11 then x / y else x - x / y * y
noncomputable def roJ (c : Nat) (x y : Int) : Int := if c = 8 then oneF (PlR x y) else if c = 9 then oneF (PlR x (ngF y)) else if c = 10 then oneF (TmR x y) else if c = 11 then oneF (OvR x y) else oneF (RsR x y)
noncomputable def arJ (c : Nat) (x y : EntJ) : EntJ := if x.1 = 0 ∧ y.1 = 0 then (if 10 < c ∧ y.2 = 0 then (3, 5) else (0, (woJ c (Int64.ofInt x.2) (Int64.ofInt y.2)).toInt)) else (1, roJ c (rlJ x) (rlJ y))
noncomputable abbrev hoJ (c how : Int) : Prop := (c = 0 ∧ how < 0) ∨ (c = 1 ∧ how ≤ 0) ∨ (c = 2 ∧ how = 0) ∨ (c = 3 ∧ how ≠ 0) ∨ (c = 4 ∧ 0 ≤ how) ∨ (¬ (c = 0 ∨ c = 1 ∨ c = 2 ∨ c = 3 ∨ c = 4) ∧ 0 < how)
noncomputable def cpJ (c : Int) (x y : EntJ) : EntJ := if x.1 = 0 ∧ y.1 = 0 then (if hoJ c (cmpF x.2 y.2) then (4, 0) else (5, 0)) else if isNaF (rlJ x) ∨ isNaF (rlJ y) then (if c = 3 then (4, 0) else (5, 0)) else if hoJ c (cmpF (rkF (rlJ x)) (rkF (rlJ y))) then (4, 0) else (5, 0)
/-- what a feature's number comes to -/
noncomputable def c32 (v : Int) : Int := (Int64.ofInt v).toInt32.toInt
noncomputable def fsJ (who thing v : Int) : Nat := (if v < 8 then 8 * who + v else 8 * (20 + thing) + v - 8).toNat
noncomputable def ngJ (x : EntJ) : EntJ := if x.1 = 0 then (0, (-(Int64.ofInt x.2)).toInt) else (1, ngF x.2)
/-- beyond the features there is nothing -/
noncomputable def gd (f : Nat) (x : EntJ) : EntJ := if f < 480 then x else (2, 0)
theorem gd_in {f : Nat} {x : EntJ} (h : f < 480) : gd f x = x := if_pos h
/-- all of it, for the reference: who, thing, moment -/
noncomputable def EvM (σ : zS) (who thing t : Int) : EvJ := (fun c v => if c < 2 then (c, v) else if c = 2 then (0, t) else if c = 3 then (0, (σ.1 110 0).toInt - t) else if c = 4 then gd (fsJ who thing (c32 v)) (itJ σ (fsJ who thing (c32 v)) 0) else gd (fsJ who thing (c32 v)) ((if (σ.1 121 (fsJ who thing (c32 v))).toInt = 0 then 2 else 0), (σ.1 122 (fsJ who thing (c32 v))).toInt),
  (fun f v => gd (fsJ who thing (c32 f)) (paJ σ (fsJ who thing (c32 f)) v), (ngJ, (arJ, (fun c => cpJ (c32 c), (fun f v => gd (fsJ who thing (c32 f)) (mgJ σ (fsJ who thing (c32 f)) v), fun f => if fsJ who thing (c32 f) < 480 ∧ ¬ (σ.1 121 (fsJ who thing (c32 f))).toInt = 0 then (4, 0) else (5, 0)))))))
/-! ===== the reference's stack ===== -/
noncomputable def StE (τ : zS) : List EntJ → Prop
  | [] => True
  | x :: S => ((τ.1 151 S.length).toInt = x.1 ∧ (τ.2 152 S.length).toInt = x.2) ∧ StE τ S
noncomputable def FrK (σ τ : zS) : Prop := (∀ k j, k ≠ 151 → ¬ (k = 110 ∧ j = 64) → τ.1 k j = σ.1 k j) ∧ ∀ k j, k ≠ 152 → τ.2 k j = σ.2 k j
noncomputable def MsJ (σ τ : zS) (S : List EntJ) : Prop := FrK σ τ ∧ (τ.1 110 64).toInt = S.length ∧ S.length ≤ 1300 ∧ StE τ S
theorem StE.cg {τ τ' : zS} : ∀ {S : List EntJ}, StE τ S → (∀ i, i < S.length → τ'.1 151 i = τ.1 151 i ∧ τ'.2 152 i = τ.2 152 i) → StE τ' S
  | [], _, _ => trivial
  | x :: S, h, hc => by
    have h1 := hc S.length (by rw [List.length_cons]; omega)
    exact ⟨by rw [h1.1, h1.2]; exact h.1, h.2.cg (fun i hi => hc i (by rw [List.length_cons]; omega))⟩
theorem ms_s {σ τ : zS} {S : List EntJ} (h : MsJ σ τ S) (f : Nat) : τ.1 121 f = σ.1 121 f ∧ τ.1 122 f = σ.1 122 f ∧ τ.2 123 f = σ.2 123 f := ⟨h.1.1 121 f (by first | decide | omega) (by first | decide | omega), h.1.1 122 f (by first | decide | omega) (by first | decide | omega), h.1.2 123 f (by first | decide | omega)⟩
theorem i32_le {a : Int32} {n : Nat} (h : a.toInt = n) (hn : n < 2147483647) : (a + 1).toInt = n + 1 := by
  have e : (1 : Int32).toInt = 1 := by decide
  rw [i32_add (by rw [e]; omega), e, h]
theorem ms_top1 {σ τ τ1 : zS} {S : List EntJ} {n : Nat} {kd : Int32} (h : MsJ σ τ S) (h1 : zI τ 151 n kd = τ1) : (τ1.1 110 64).toInt = S.length := by
  subst h1
  rw [yI_ne (by first | decide | omega)]; exact h.2.1
theorem ms_push {σ τ τ1 τ2 τ3 : zS} {S : List EntJ} {kd : Int32} {v : Int64} {c : Nat} (h : MsJ σ τ S) (hl : S.length < 1300) (hk : kd.toInt = (c : Int)) (h1 : zI τ 151 S.length kd = τ1) (h2 : zJ τ1 152 S.length v = τ2) (h3 : zI τ2 110 64 (τ2.1 110 64 + 1) = τ3) : MsJ σ τ3 ((c, v.toInt) :: S) := by
  obtain ⟨⟨a1, a2⟩, a3, a4, a5⟩ := h
  have e1 : ∀ k j, ¬ (k = 151 ∧ j = S.length) → ¬ (k = 110 ∧ j = 64) → τ3.1 k j = τ.1 k j := by
    intro k j q1 q2
    rw [← h3, yI_ne q2, ← h2, yJ_i, ← h1, yI_ne q1]
  have e2 : ∀ k j, ¬ (k = 152 ∧ j = S.length) → τ3.2 k j = τ.2 k j := by
    intro k j q1
    rw [← h3, yI_l, ← h2, yJ_ne q1, ← h1, yI_l]
  have e3 : (τ3.1 110 64).toInt = S.length + 1 := by
    rw [← h3, yI_at]
    refine i32_le ?_ (by omega)
    rw [← h2, yJ_i, ← h1, yI_ne (by first | decide | omega)]; exact a3
  refine ⟨⟨fun k j q1 q2 => ?_, fun k j q1 => ?_⟩, by rw [e3, List.length_cons]; rfl, by rw [List.length_cons]; omega, ⟨⟨?_, ?_⟩, a5.cg (fun i hi => ⟨e1 _ _ (by omega) (by first | decide | omega), e2 _ _ (by omega)⟩)⟩⟩
  · rw [e1 k j (fun q => q1 q.1) q2]; exact a1 k j q1 q2
  · rw [e2 k j (fun q => q1 q.1)]; exact a2 k j q1
  · rw [← h3, yI_ne (by first | decide | omega), ← h2, yJ_i, ← h1, yI_at]; exact hk
  · rw [← h3, yI_l, ← h2, yJ_at]
/-- one is taken off: it still lies there -/
noncomputable def PsJ (σ τ : zS) (x : EntJ) (S : List EntJ) : Prop := MsJ σ τ S ∧ ((τ.1 151 S.length).toInt = x.1 ∧ (τ.2 152 S.length).toInt = x.2) ∧ S.length < 1300
theorem ms_pop {σ τ τ1 : zS} {S : List EntJ} {x : EntJ} (h : MsJ σ τ (x :: S)) (h1 : zI τ 110 64 (τ.1 110 64 - 1) = τ1) : PsJ σ τ1 x S := by
  obtain ⟨⟨a1, a2⟩, a3, a4, a5⟩ := h
  rw [List.length_cons] at a3 a4
  have e : (1 : Int32).toInt = 1 := by decide
  have e1 : ∀ k j, ¬ (k = 110 ∧ j = 64) → τ1.1 k j = τ.1 k j := fun k j q => by rw [← h1, yI_ne q]
  have e2 : ∀ k j, τ1.2 k j = τ.2 k j := fun k j => by rw [← h1, yI_l]
  refine ⟨⟨⟨fun k j q1 q2 => by rw [e1 k j q2]; exact a1 k j q1 q2, fun k j q => by rw [e2]; exact a2 k j q⟩, ?_, by omega, a5.2.cg (fun i _ => ⟨e1 _ _ (by first | decide | omega), e2 _ _⟩)⟩, ⟨by rw [e1 _ _ (by first | decide | omega)]; exact a5.1.1, by rw [e2]; exact a5.1.2⟩, by omega⟩
  rw [← h1, yI_at, i32_sub (by rw [e]; omega), e]; omega
/-- two are taken off -/
noncomputable def P2J (σ τ : zS) (x y : EntJ) (S : List EntJ) : Prop := MsJ σ τ S ∧ (((τ.1 151 S.length).toInt = x.1 ∧ (τ.2 152 S.length).toInt = x.2) ∧ (τ.1 151 (S.length + 1)).toInt = y.1 ∧ (τ.2 152 (S.length + 1)).toInt = y.2) ∧ S.length + 1 < 1300
theorem ms_pop2 {σ τ τ1 : zS} {S : List EntJ} {x y : EntJ} (h : MsJ σ τ (y :: x :: S)) (h1 : zI τ 110 64 (τ.1 110 64 - 2) = τ1) : P2J σ τ1 x y S := by
  obtain ⟨⟨a1, a2⟩, a3, a4, a5⟩ := h
  rw [List.length_cons, List.length_cons] at a3 a4
  have e : (2 : Int32).toInt = 2 := by decide
  have e1 : ∀ k j, ¬ (k = 110 ∧ j = 64) → τ1.1 k j = τ.1 k j := fun k j q => by rw [← h1, yI_ne q]
  have e2 : ∀ k j, τ1.2 k j = τ.2 k j := fun k j => by rw [← h1, yI_l]
  refine ⟨⟨⟨fun k j q1 q2 => by rw [e1 k j q2]; exact a1 k j q1 q2, fun k j q => by rw [e2]; exact a2 k j q⟩, ?_, by omega, a5.2.2.cg (fun i _ => ⟨e1 _ _ (by first | decide | omega), e2 _ _⟩)⟩, ⟨⟨by rw [e1 _ _ (by first | decide | omega)]; exact a5.2.1.1, by rw [e2]; exact a5.2.1.2⟩, by rw [e1 _ _ (by first | decide | omega)]; exact a5.1.1, by rw [e2]; exact a5.1.2⟩, by omega⟩
  rw [← h1, yI_at, i32_sub (by rw [e]; omega), e]; omega
theorem P2J.t1 {σ τ : zS} {x y : EntJ} {S : List EntJ} (h : P2J σ τ x y S) : (τ.1 110 64 + 1).toInt = ((S.length + 1 : Nat) : Int) := by
  rw [i32_le h.1.2.1 (by have := h.2.2; omega)]; rfl
theorem ent {x : EntJ} {c : Nat} {v : Int} (h1 : (c : Int) = x.1) (h2 : v = x.2) : ((c, v) : EntJ) = x := by
  have : c = x.1 := by omega
  rw [this, h2]
theorem of_i {v : Int64} {z : Int} (h : v.toInt = z) : Int64.ofInt z = v := by rw [← h, Int64.ofInt_toInt]
theorem on_hi {f : Int → EntJ} {x : EntJ} (h : 2 ≤ x.1) : onJ9 f x = x := by unfold onJ9; rw [if_pos h]
theorem on_re {f : Int → EntJ} {x : EntJ} (h : x.1 = 1) : onJ9 f x = (3, 4) := by unfold onJ9; rw [if_neg (by omega), if_pos h]
theorem on_wh {f : Int → EntJ} {x : EntJ} (h : x.1 = 0) : onJ9 f x = f x.2 := by unfold onJ9; rw [if_neg (by omega), if_neg (by omega)]
theorem tw_a {f : EntJ → EntJ → EntJ} {x y : EntJ} (h : 2 ≤ x.1) : twJ9 f x y = x := by unfold twJ9; rw [if_pos h]
theorem tw_b {f : EntJ → EntJ → EntJ} {x y : EntJ} (h : ¬ 2 ≤ x.1) (h2 : 2 ≤ y.1) : twJ9 f x y = y := by unfold twJ9; rw [if_neg h, if_pos h2]
theorem tw_f {f : EntJ → EntJ → EntJ} {x y : EntJ} (h : ¬ 2 ≤ x.1) (h2 : ¬ 2 ≤ y.1) : twJ9 f x y = f x y := by unfold twJ9; rw [if_neg h, if_neg h2]
theorem i2l_i (x : Int32) : (Int32.toInt64 x).toInt = x.toInt := Int32.toInt_toInt64 x
theorem ms_c1 {σ : zS} {fn : Nat} (hc : ∀ f : Nat, f < 480 → 0 ≤ (σ.1 122 f).toInt ∧ (σ.1 122 f).toInt ≤ 20) (hfn : fn < 480) : ((σ.1 122 fn) - 1).toInt = (σ.1 122 fn).toInt - 1 := by
  have e : (1 : Int32).toInt = 1 := by decide
  have := hc fn hfn
  rw [i32_sub (by rw [e]; omega), e]
theorem ms_ix {f i : Int32} {fn : Nat} (hf : f.toInt = (fn : Int)) (hfn : fn < 480) (hi : 0 ≤ i.toInt ∧ i.toInt ≤ 19) : (20 * f + i).toInt = ((20 * fn + i.toInt.toNat : Nat) : Int) := by
  have e : (20 : Int32).toInt = 20 := by decide
  have h1 : (20 * f).toInt = 20 * (fn : Int) := by rw [Int32.toInt_mul, e, hf, Int.bmod_eq_of_le (by omega) (by omega)]
  rw [i32_add (by omega), h1]; omega
theorem ms_ix2 {f i : Int32} {fn n : Nat} (hf : f.toInt = (fn : Int)) (hfn : fn < 480) (hi : i.toInt = (n : Int)) (hn : n ≤ 19) : (20 * f + i).toInt = ((20 * fn + n : Nat) : Int) := by
  have h := ms_ix (i := i) hf hfn (by omega)
  rw [h]; omega
theorem it_u {σ : zS} {f : Nat} {i : Int} (h : (σ.1 121 f).toInt = 0) : itJ σ f i = (2, 0) := by unfold itJ; rw [if_pos h]
theorem it_f {σ : zS} {f : Nat} {i : Int} (h : (σ.1 121 f).toInt ≠ 0) (h2 : ¬ (0 ≤ i ∧ i ≤ (σ.1 122 f).toInt - 1)) : itJ σ f i = (3, 2) := by unfold itJ; rw [if_neg h, if_pos h2]
theorem it_0 {σ : zS} {f : Nat} {i : Int} (h : (σ.1 121 f).toInt ≠ 0) (h2 : 0 ≤ i ∧ i ≤ (σ.1 122 f).toInt - 1) (h3 : (σ.1 121 f).toInt ≠ 2) : itJ σ f i = (0, (σ.2 123 (20 * f + i.toNat)).toInt) := by unfold itJ; rw [if_neg h, if_neg (fun q => q h2), if_neg h3]
theorem it_1 {σ : zS} {f : Nat} {i : Int} (h : (σ.1 121 f).toInt ≠ 0) (h2 : 0 ≤ i ∧ i ≤ (σ.1 122 f).toInt - 1) (h3 : (σ.1 121 f).toInt = 2) : itJ σ f i = (1, (σ.2 123 (20 * f + i.toNat)).toInt) := by unfold itJ; rw [if_neg h, if_neg (fun q => q h2), if_pos h3]
theorem l2i_s {v : Int64} {z : Int} (h : v.toInt = z) (hz : 0 ≤ z ∧ z ≤ 1000) : (Int64.toInt32 v).toInt = z := by
  rw [Int64.toInt_toInt32, h, Int.bmod_eq_of_le (by omega) (by omega)]
theorem mg_u0 {σ : zS} {f : Nat} {v : Int} (h : (σ.1 121 f).toInt = 0) : mgJ σ f v = (2, 0) := by unfold mgJ; rw [if_pos h]
theorem mg_x {σ : zS} {f : Nat} {v : Int} (h : (σ.1 121 f).toInt ≠ 0) (h3 : (σ.1 121 f).toInt ≠ 3) : mgJ σ f v = (3, 4) := by unfold mgJ; rw [if_neg h, if_pos h3]
theorem mg_0 {σ : zS} {f n : Nat} {v : Int} {b : Int32} (h3 : (σ.1 121 f).toInt = 3) (hn : n = (σ.1 122 f).toInt.toNat) (hb : b.toInt = (if hasJ σ f v n then 1 else 0)) (h0 : b.toInt = 0) : mgJ σ f v = (5, 0) := by
  unfold mgJ
  rw [if_neg (by omega), if_neg (by omega), ← hn]
  cases hh : hasJ σ f v n with
  | true => rw [hh] at hb; simp at hb; omega
  | false => simp
theorem mg_1 {σ : zS} {f n : Nat} {v : Int} {b : Int32} (h3 : (σ.1 121 f).toInt = 3) (hn : n = (σ.1 122 f).toInt.toNat) (hb : b.toInt = (if hasJ σ f v n then 1 else 0)) (h0 : b.toInt ≠ 0) : mgJ σ f v = (4, 0) := by
  unfold mgJ
  rw [if_neg (by omega), if_neg (by omega), ← hn]
  cases hh : hasJ σ f v n with
  | true => simp
  | false => rw [hh] at hb; simp at hb; omega
theorem ha_on {σ : zS} {f n : Nat} {v : Int} {b : Int32} (hb : b.toInt = (if hasJ σ f v n then 1 else 0)) (h0 : b.toInt ≠ 0) : (1 : Int32).toInt = (if hasJ σ f v (n + 1) then 1 else 0) := by
  cases hh : hasJ σ f v n with
  | true => unfold hasJ; rw [hh, Bool.true_or]; decide
  | false => rw [hh] at hb; simp at hb; omega
theorem ha_eq {σ : zS} {f n : Nat} {v : Int} (h : (σ.2 123 (20 * f + n)).toInt = v) : (1 : Int32).toInt = (if hasJ σ f v (n + 1) then 1 else 0) := by
  unfold hasJ; rw [decide_eq_true h, Bool.or_true]; decide
theorem ha_ne {σ : zS} {f n : Nat} {v : Int} {b : Int32} (hb : b.toInt = (if hasJ σ f v n then 1 else 0)) (h0 : b.toInt = 0) (h : (σ.2 123 (20 * f + n)).toInt ≠ v) : (0 : Int32).toInt = (if hasJ σ f v (n + 1) then 1 else 0) := by
  cases hh : hasJ σ f v n with
  | true => rw [hh] at hb; simp at hb; omega
  | false => unfold hasJ; rw [hh, decide_eq_false h]; decide
/-! ===== ops of two ===== -/
theorem rl_0 {x : EntJ} {v : Int64} (h : x.1 = 0) (hv : OwR x.2 v.toInt) : v.toInt = rlJ x := by
  unfold rlJ; rw [if_pos h]; exact (one_eq (fun a b ha hb => ow_eq ha hb) hv).symm
theorem rl_1 {x : EntJ} {v : Int64} (h : x.1 ≠ 0) (hv : v.toInt = x.2) : v.toInt = rlJ x := by
  unfold rlJ; rw [if_neg h]; exact hv
theorem ar_z {c : Nat} {x y : EntJ} (h : x.1 = 0 ∧ y.1 = 0) (hc : 10 < c) (h0 : y.2 = 0) : arJ c x y = (3, 5) := by unfold arJ; rw [if_pos h, if_pos ⟨hc, h0⟩]
theorem ar_w {c : Nat} {x y : EntJ} {a b r : Int64} (h : x.1 = 0 ∧ y.1 = 0) (hc : ¬ (10 < c ∧ y.2 = 0)) (ha : a.toInt = x.2) (hb : b.toInt = y.2) (hr : r = woJ c a b) : ((0, r.toInt) : EntJ) = arJ c x y := by
  unfold arJ; rw [if_pos h, if_neg hc, of_i ha, of_i hb, hr]
theorem ar_r {c : Nat} {x y : EntJ} {r : Int} (h : ¬ (x.1 = 0 ∧ y.1 = 0)) (hr : r = roJ c (rlJ x) (rlJ y)) : ((1, r) : EntJ) = arJ c x y := by unfold arJ; rw [if_neg h, hr]
theorem wo_8 {a b : Int64} {c : Nat} (h : c = 8) : a + b = woJ c a b := by unfold woJ; rw [if_pos h]
theorem wo_9 {a b : Int64} {c : Nat} (h : c = 9) : a - b = woJ c a b := by unfold woJ; rw [if_neg (by omega), if_pos h]
theorem wo_10 {a b : Int64} {c : Nat} (h : c = 10) : a * b = woJ c a b := by unfold woJ; rw [if_neg (by omega), if_neg (by omega), if_pos h]
theorem wo_11 {a b : Int64} {c : Nat} (h : c = 11) : a / b = woJ c a b := by unfold woJ; rw [if_neg (by omega), if_neg (by omega), if_neg (by omega), if_pos h]
theorem wo_12 {a b : Int64} {c : Nat} (h : ¬ (c = 8 ∨ c = 9 ∨ c = 10 ∨ c = 11)) : a - a / b * b = woJ c a b := by unfold woJ; rw [if_neg (by omega), if_neg (by omega), if_neg (by omega), if_neg (by omega)]
theorem ro_8 {c : Nat} {x y r : Int} (h : c = 8) (hr : PlR x y r) : r = roJ c x y := by unfold roJ; rw [if_pos h]; exact (one_eq (fun a b ha hb => pl_eq ha hb) hr).symm
theorem ro_9 {c : Nat} {x y z r : Int} (h : c = 9) (hz : z = ngF y) (hr : PlR x z r) : r = roJ c x y := by unfold roJ; rw [if_neg (by omega), if_pos h, ← hz]; exact (one_eq (fun a b ha hb => pl_eq ha hb) hr).symm
theorem ro_10 {c : Nat} {x y r : Int} (h : c = 10) (hr : TmR x y r) : r = roJ c x y := by unfold roJ; rw [if_neg (by omega), if_neg (by omega), if_pos h]; exact (one_eq (fun a b ha hb => tm_eq ha hb) hr).symm
theorem ro_11 {c : Nat} {x y r : Int} (h : c = 11) (hy : inL y) (hr : OvR x y r) : r = roJ c x y := by unfold roJ; rw [if_neg (by omega), if_neg (by omega), if_neg (by omega), if_pos h]; exact (one_eq (fun a b ha hb => ov_eq hy ha hb) hr).symm
theorem ro_12 {c : Nat} {x y r : Int} (h : ¬ (c = 8 ∨ c = 9 ∨ c = 10 ∨ c = 11)) (hr : RsR x y r) : r = roJ c x y := by unfold roJ; rw [if_neg (by omega), if_neg (by omega), if_neg (by omega), if_neg (by omega)]; exact (one_eq (fun a b ha hb => rs_eq ha hb) hr).symm
theorem cmp_w {a b : Int64} {x y : EntJ} {r : Int32} (ha : a.toInt = x.2) (hb : b.toInt = y.2) (hr : r.toInt = cmpF a.toInt b.toInt) : r.toInt = cmpF x.2 y.2 := by rw [hr, ha, hb]
theorem cp_wt {c : Int} {x y : EntJ} {r : Int} (h : x.1 = 0 ∧ y.1 = 0) (hr : r = cmpF x.2 y.2) (hh : hoJ c r) : ((4, 0) : EntJ) = cpJ c x y := by unfold cpJ; rw [if_pos h, ← hr, if_pos hh]
theorem cp_wf {c : Int} {x y : EntJ} {r : Int} (h : x.1 = 0 ∧ y.1 = 0) (hr : r = cmpF x.2 y.2) (hh : ¬ hoJ c r) : ((5, 0) : EntJ) = cpJ c x y := by unfold cpJ; rw [if_pos h, ← hr, if_neg hh]
theorem cp_nt {c : Int} {x y : EntJ} (h : ¬ (x.1 = 0 ∧ y.1 = 0)) (hn : isNaF (rlJ x) ∨ isNaF (rlJ y)) (hc : c = 3) : ((4, 0) : EntJ) = cpJ c x y := by unfold cpJ; rw [if_neg h, if_pos hn, if_pos hc]
theorem cp_nf {c : Int} {x y : EntJ} (h : ¬ (x.1 = 0 ∧ y.1 = 0)) (hn : isNaF (rlJ x) ∨ isNaF (rlJ y)) (hc : ¬ c = 3) : ((5, 0) : EntJ) = cpJ c x y := by unfold cpJ; rw [if_neg h, if_pos hn, if_neg hc]
theorem cp_rt {c : Int} {x y : EntJ} {r : Int} (h : ¬ (x.1 = 0 ∧ y.1 = 0)) (hn : ¬ (isNaF (rlJ x) ∨ isNaF (rlJ y))) (hr : r = cmpF (rkF (rlJ x)) (rkF (rlJ y))) (hh : hoJ c r) : ((4, 0) : EntJ) = cpJ c x y := by unfold cpJ; rw [if_neg h, if_neg hn, ← hr, if_pos hh]
theorem cp_rf {c : Int} {x y : EntJ} {r : Int} (h : ¬ (x.1 = 0 ∧ y.1 = 0)) (hn : ¬ (isNaF (rlJ x) ∨ isNaF (rlJ y))) (hr : r = cmpF (rkF (rlJ x)) (rkF (rlJ y))) (hh : ¬ hoJ c r) : ((5, 0) : EntJ) = cpJ c x y := by unfold cpJ; rw [if_neg h, if_neg hn, ← hr, if_neg hh]
/-- what pushOf pushes -/
noncomputable def ofJ (c : Nat) (cc : Int) (x y : EntJ) : EntJ := if c = 13 then twJ9 (cpJ cc) x y else twJ9 (arJ c) x y
theorem of_a {c : Nat} {cc : Int} {x y : EntJ} (h : 2 ≤ x.1) : ofJ c cc x y = x := by unfold ofJ; split <;> exact tw_a h
theorem of_b {c : Nat} {cc : Int} {x y : EntJ} (h : ¬ 2 ≤ x.1) (h2 : 2 ≤ y.1) : ofJ c cc x y = y := by unfold ofJ; split <;> exact tw_b h h2
theorem of_c {c : Nat} {cc : Int} {x y : EntJ} (hc : c = 13) (h : ¬ 2 ≤ x.1) (h2 : ¬ 2 ≤ y.1) : ofJ c cc x y = cpJ cc x y := by unfold ofJ; rw [if_pos hc]; exact tw_f h h2
theorem of_r {c : Nat} {cc : Int} {x y : EntJ} (hc : ¬ c = 13) (h : ¬ 2 ≤ x.1) (h2 : ¬ 2 ≤ y.1) : ofJ c cc x y = arJ c x y := by unfold ofJ; rw [if_neg hc]; exact tw_f h h2
theorem jn_a {w s : Nat} {a b : EntJ} (h : a.1 = 3 ∨ a.1 = s) : jn9 w s a b = a := by unfold jn9; rw [if_pos h]
theorem jn_u {w s : Nat} {a b : EntJ} (h : ¬ (a.1 = 3 ∨ a.1 = s)) (h2 : a.1 = 2 ∧ b.1 = w) : jn9 w s a b = (2, 0) := by unfold jn9; rw [if_neg h, if_pos h2]
theorem jn_b {w s : Nat} {a b : EntJ} (h : ¬ (a.1 = 3 ∨ a.1 = s)) (h2 : ¬ (a.1 = 2 ∧ b.1 = w)) : jn9 w s a b = b := by unfold jn9; rw [if_neg h, if_neg h2]
/-! ===== evaluate ===== -/
noncomputable def cdL (σ : zS) : Nat → Nat → List (Nat × Int)
  | _, 0 => []
  | k, n + 1 => ((σ.1 141 k).toInt.toNat, (σ.2 142 k).toInt) :: cdL σ (k + 1) n
noncomputable def hd1 (S : List EntJ) : EntJ := S.headD (0, 0)
theorem un1 {S : List EntJ} (h : 1 ≤ S.length) : hd1 S :: S.tail = S := by
  cases S with
  | nil => exact absurd h (by first | decide | omega)
  | cons x S => rfl
theorem un2 {S : List EntJ} (h : 2 ≤ S.length) : hd1 S :: hd1 S.tail :: S.tail.tail = S := by
  cases S with
  | nil => exact absurd h (by first | decide | omega)
  | cons x S =>
    cases S with
    | nil => exact absurd h (by simp)
    | cons y S => rfl
theorem ms_1 {σ τ : zS} {S : List EntJ} (h : MsJ σ τ S) (hl : 1 ≤ S.length) : MsJ σ τ (hd1 S :: S.tail) := by rw [un1 hl]; exact h
theorem ms_2 {σ τ : zS} {S : List EntJ} (h : MsJ σ τ S) (hl : 2 ≤ S.length) : MsJ σ τ (hd1 S :: hd1 S.tail :: S.tail.tail) := by rw [un2 hl]; exact h
theorem ms_t {σ τ : zS} {S : List EntJ} (h : MsJ σ τ S) (hl : 1 ≤ S.length) : (τ.1 110 64 - 1).toInt = ((S.tail.length : Nat) : Int) ∧ S.tail.length < 1300 ∧ (τ.1 151 S.tail.length).toInt = (hd1 S).1 ∧ (τ.2 152 S.tail.length).toInt = (hd1 S).2 := by
  have h1 := ms_1 h hl
  have e : (1 : Int32).toInt = 1 := by decide
  have hlen : S.tail.length = S.length - 1 := List.length_tail
  have := h.2.1
  have := h.2.2.1
  refine ⟨by rw [i32_sub (by rw [e]; omega), e]; omega, by omega, h1.2.2.2.1.1, h1.2.2.2.1.2⟩
theorem ms_setv {σ τ τ1 : zS} {S : List EntJ} {v : Int64} (h : MsJ σ τ S) (hl : 1 ≤ S.length) (h1 : zJ τ 152 S.tail.length v = τ1) : MsJ σ τ1 (((hd1 S).1, v.toInt) :: S.tail) := by
  have h2 := ms_1 h hl
  obtain ⟨⟨a1, a2⟩, a3, a4, a5⟩ := h2
  refine ⟨⟨fun k j q1 q2 => by rw [← h1, yJ_i]; exact a1 k j q1 q2, fun k j q => by rw [← h1, yJ_ne (fun z => q z.1)]; exact a2 k j q⟩, by rw [← h1, yJ_i, a3]; rfl, a4, ⟨⟨by rw [← h1, yJ_i]; exact a5.1.1, by rw [← h1, yJ_at]⟩, a5.2.cg (fun i hi => ⟨by rw [← h1, yJ_i], by rw [← h1, yJ_ne (by omega)]⟩)⟩⟩
theorem ms_setk {σ τ τ1 : zS} {S : List EntJ} {kd : Int32} {c : Nat} (h : MsJ σ τ S) (hl : 1 ≤ S.length) (hk : kd.toInt = (c : Int)) (h1 : zI τ 151 S.tail.length kd = τ1) : MsJ σ τ1 ((c, (hd1 S).2) :: S.tail) := by
  have h2 := ms_1 h hl
  obtain ⟨⟨a1, a2⟩, a3, a4, a5⟩ := h2
  refine ⟨⟨fun k j q1 q2 => by rw [← h1, yI_ne (fun z => q1 z.1)]; exact a1 k j q1 q2, fun k j q => by rw [← h1, yI_l]; exact a2 k j q⟩, by rw [← h1, yI_ne (by first | decide | omega), a3]; rfl, a4, ⟨⟨by rw [← h1, yI_at]; exact hk, by rw [← h1, yI_l]; exact a5.1.2⟩, a5.2.cg (fun i hi => ⟨by rw [← h1, yI_ne (by omega)], by rw [← h1, yI_l]⟩)⟩⟩
theorem mst_l {E : EvJ} {c : Nat × Int} {S : List EntJ} (h : c.1 < 7) (h5 : c.1 ≠ 5) : mst9 E c S = E.ld c.1 c.2 :: S := by unfold mst9; rw [if_neg h5, if_neg (by omega), if_pos h]
theorem mst_5 {E : EvJ} {c : Nat × Int} {S : List EntJ} (h : c.1 = 5) (hl : 1 ≤ S.length) : mst9 E c S = onJ9 (E.pa c.2) (hd1 S) :: S.tail := by
  rw [← un1 hl]; unfold mst9; rw [if_pos h]; rfl
theorem mst_7 {E : EvJ} {c : Nat × Int} {S : List EntJ} (h : c.1 = 7) (hl : 1 ≤ S.length) : mst9 E c S = (if 2 ≤ (hd1 S).1 then hd1 S else E.ng (hd1 S)) :: S.tail := by
  rw [← un1 hl]; unfold mst9; rw [if_neg (by omega), if_pos h]; rfl
theorem mst_14 {E : EvJ} {c : Nat × Int} {S : List EntJ} (h : c.1 = 14) (hl : 1 ≤ S.length) : mst9 E c S = onJ9 (E.mg c.2) (hd1 S) :: S.tail := by
  rw [← un1 hl]; unfold mst9; rw [if_neg (by omega), if_neg (by omega), if_neg (by omega), if_neg (by omega), if_neg (by omega), if_pos h]; rfl
theorem mst_15 {E : EvJ} {c : Nat × Int} {S : List EntJ} (h : c.1 = 15) : mst9 E c S = E.kn c.2 :: S := by
  unfold mst9; rw [if_neg (by omega), if_neg (by omega), if_neg (by omega), if_neg (by omega), if_neg (by omega), if_neg (by omega), if_pos h]
theorem mst_16 {E : EvJ} {c : Nat × Int} {S : List EntJ} (h : c.1 = 16) (hl : 1 ≤ S.length) : mst9 E c S = nt9 (hd1 S) :: S.tail := by
  rw [← un1 hl]; unfold mst9; rw [if_neg (by omega), if_neg (by omega), if_neg (by omega), if_neg (by omega), if_neg (by omega), if_neg (by omega), if_neg (by omega), if_pos h]; rfl
theorem mst_of {E : EvJ} {c : Nat × Int} {S : List EntJ} (h : 8 ≤ c.1) (h2 : c.1 ≤ 13) (hl : 2 ≤ S.length) : mst9 E c S = (if c.1 = 13 then twJ9 (E.cp c.2) (hd1 S.tail) (hd1 S) else twJ9 (E.ar c.1) (hd1 S.tail) (hd1 S)) :: S.tail.tail := by
  conv => lhs; rw [← un2 hl]
  unfold mst9
  rw [if_neg (by omega), if_neg (by omega), if_neg (by omega)]
  by_cases h3 : c.1 = 13
  · rw [if_neg (by omega), if_pos h3, if_pos h3]
  · rw [if_pos (by omega), if_neg h3]
theorem mst_17 {E : EvJ} {c : Nat × Int} {S : List EntJ} (h : c.1 = 17) (hl : 2 ≤ S.length) : mst9 E c S = jn9 4 5 (hd1 S.tail) (hd1 S) :: S.tail.tail := by
  conv => lhs; rw [← un2 hl]
  unfold mst9
  rw [if_neg (by omega), if_neg (by omega), if_neg (by omega), if_neg (by omega), if_neg (by omega), if_neg (by omega), if_neg (by omega), if_neg (by omega), if_pos h]
theorem mst_18 {E : EvJ} {c : Nat × Int} {S : List EntJ} (h : 18 ≤ c.1) (hl : 2 ≤ S.length) : mst9 E c S = jn9 5 4 (hd1 S.tail) (hd1 S) :: S.tail.tail := by
  conv => lhs; rw [← un2 hl]
  unfold mst9
  rw [if_neg (by omega), if_neg (by omega), if_neg (by omega), if_neg (by omega), if_neg (by omega), if_neg (by omega), if_neg (by omega), if_neg (by omega), if_neg (by omega)]
/-- what is known of the code from n to n + j, where the stack is h high -/
noncomputable def CoK (σ : zS) (n j : Nat) (h : Int) : Prop := qrun (fun i => (σ.1 141 i).toInt) j n h ≠ none ∧ ∀ i, n ≤ i → i < n + j → i < 10400 ∧ (0 ≤ (σ.1 141 i).toInt ∧ (σ.1 141 i).toInt ≤ 18) ∧ ((σ.1 141 i).toInt = 4 ∨ (σ.1 141 i).toInt = 5 ∨ (σ.1 141 i).toInt = 6 ∨ (σ.1 141 i).toInt = 14 ∨ (σ.1 141 i).toInt = 15 → 0 ≤ (σ.2 142 i).toInt ∧ (σ.2 142 i).toInt ≤ 15)
theorem CoK.st {σ : zS} {n j : Nat} {h : Int} (c : CoK σ n (j + 1) h) : ∃ h', qst (σ.1 141 n).toInt h = some h' ∧ CoK σ (n + 1) j h' := by
  obtain ⟨c1, c2⟩ := c
  unfold qrun at c1
  cases hq : qst (σ.1 141 n).toInt h with
  | none => rw [hq] at c1; exact absurd rfl c1
  | some h' =>
    rw [hq] at c1
    exact ⟨h', rfl, c1, fun i h1 h2 => c2 i (by omega) (by omega)⟩
theorem CoK.at {σ : zS} {n j : Nat} {h : Int} (c : CoK σ n (j + 1) h) : n < 10400 ∧ (0 ≤ (σ.1 141 n).toInt ∧ (σ.1 141 n).toInt ≤ 18) ∧ ((σ.1 141 n).toInt = 4 ∨ (σ.1 141 n).toInt = 5 ∨ (σ.1 141 n).toInt = 6 ∨ (σ.1 141 n).toInt = 14 ∨ (σ.1 141 n).toInt = 15 → 0 ≤ (σ.2 142 n).toInt ∧ (σ.2 142 n).toInt ≤ 15) := c.2 n (Nat.le_refl n) (by omega)
theorem CoK.l0 {σ : zS} {n j : Nat} {h : Int} (c : CoK σ n (j + 1) h) (ho : qop (σ.1 141 n).toInt = 0) : CoK σ (n + 1) j (h + 1) := by
  obtain ⟨h', h1, h2⟩ := c.st
  rw [qst0 ho] at h1
  rw [Option.some.inj h1]; exact h2
theorem CoK.l1 {σ : zS} {n j : Nat} {h : Int} (c : CoK σ n (j + 1) h) (ho : qop (σ.1 141 n).toInt = 1) : 1 ≤ h ∧ CoK σ (n + 1) j h := by
  obtain ⟨h', h1, h2⟩ := c.st
  have hh := qst1n ho (by rw [h1]; exact Option.some_ne_none _)
  rw [qst1 ho hh] at h1
  rw [← Option.some.inj h1] at h2
  exact ⟨hh, h2⟩
theorem CoK.l2 {σ : zS} {n j : Nat} {h : Int} (c : CoK σ n (j + 1) h) (ho : qop (σ.1 141 n).toInt = 2) : 2 ≤ h ∧ CoK σ (n + 1) j (h - 1) := by
  obtain ⟨h', h1, h2⟩ := c.st
  have hh := qst2n ho (by rw [h1]; exact Option.some_ne_none _)
  rw [qst2 ho hh] at h1
  rw [← Option.some.inj h1] at h2
  exact ⟨hh, h2⟩
theorem qo0 {x : Int} (h : x ≤ 4 ∨ x = 6 ∨ x = 15) : qop x = 0 := if_pos h
theorem qo1 {x : Int} (h : x = 5 ∨ x = 7 ∨ x = 14 ∨ x = 16) : qop x = 1 := by unfold qop; rw [if_neg (by omega), if_pos h]
theorem qo2 {x : Int} (h : (8 ≤ x ∧ x ≤ 13) ∨ 17 ≤ x) : qop x = 2 := by unfold qop; rw [if_neg (by omega), if_neg (by omega)]
theorem c32_s {v : Int} (h : 0 ≤ v ∧ v ≤ 15) : c32 v = v := by
  unfold c32
  have h1 : (Int64.ofInt v).toInt = v := by
    rw [Int64.toInt_ofInt]
    have hs : Int64.size = 18446744073709551616 := rfl
    rw [hs]; exact Int.bmod_eq_of_le (by omega) (by omega)
  rw [Int64.toInt_toInt32, h1, Int.bmod_eq_of_le (by omega) (by omega)]
theorem c32_v {x : Int64} : (Int64.toInt32 x).toInt = c32 x.toInt := by unfold c32; rw [Int64.ofInt_toInt]
theorem fs_lt {who thing v : Int} (hw : 0 ≤ who ∧ who ≤ 19) (ht : 0 ≤ thing ∧ thing ≤ 39) (hv : 0 ≤ v ∧ v ≤ 15) : fsJ who thing v < 480 := by unfold fsJ; split <;> omega
theorem fs_a {who v : Int32} {thing z : Int} (hw : 0 ≤ who.toInt ∧ who.toInt ≤ 19) (hz : v.toInt = z) (hv : 0 ≤ z ∧ z ≤ 15) (h : z < 8) : (8 * who + v).toInt = ((fsJ who.toInt thing z : Nat) : Int) := by
  have e : (8 : Int32).toInt = 8 := by decide
  have h1 : (8 * who).toInt = 8 * who.toInt := by rw [Int32.toInt_mul, e, Int.bmod_eq_of_le (by omega) (by omega)]
  rw [i32_add (by omega), h1]; unfold fsJ; rw [if_pos h]; omega
theorem fs_b {thing v : Int32} {who z : Int} (ht : 0 ≤ thing.toInt ∧ thing.toInt ≤ 39) (hz : v.toInt = z) (hv : 0 ≤ z ∧ z ≤ 15) (h : 8 ≤ z) : (8 * (20 + thing) + v - 8).toInt = ((fsJ who thing.toInt z : Nat) : Int) := by
  have e : (8 : Int32).toInt = 8 := by decide
  have e2 : (20 : Int32).toInt = 20 := by decide
  have h0 : (20 + thing).toInt = 20 + thing.toInt := by rw [i32_add (by omega), e2]
  have h1 : (8 * (20 + thing)).toInt = 8 * (20 + thing.toInt) := by rw [Int32.toInt_mul, e, h0, Int.bmod_eq_of_le (by omega) (by omega)]
  have h2 : (8 * (20 + thing) + v).toInt = 8 * (20 + thing.toInt) + z := by rw [i32_add (by omega), h1, hz]
  rw [i32_sub (by omega), h2, e]; unfold fsJ; rw [if_neg (by omega)]; omega
theorem ms_cd {σ τ : zS} {S : List EntJ} (h : MsJ σ τ S) (n : Nat) : τ.1 141 n = σ.1 141 n ∧ τ.2 142 n = σ.2 142 n ∧ τ.1 110 0 = σ.1 110 0 := ⟨h.1.1 141 n (by first | decide | omega) (by first | decide | omega), h.1.2 142 n (by first | decide | omega), h.1.1 110 0 (by first | decide | omega) (by first | decide | omega)⟩
theorem ev_01 {σ : zS} {w u t : Int} {c : Nat × Int} (h : c.1 < 2) : (EvM σ w u t).ld c.1 c.2 = c := by
  show (if c.1 < 2 then (c.1, c.2) else _) = c
  rw [if_pos h]
theorem ev_2 {σ : zS} {w u t : Int} {c : Nat × Int} (h : c.1 = 2) : (EvM σ w u t).ld c.1 c.2 = (0, t) := by
  show (if c.1 < 2 then (c.1, c.2) else if c.1 = 2 then (0, t) else _) = _
  rw [if_neg (by omega), if_pos h]
theorem ev_3 {σ : zS} {w u t : Int} {c : Nat × Int} (h : c.1 = 3) : (EvM σ w u t).ld c.1 c.2 = (0, (σ.1 110 0).toInt - t) := by
  show (if c.1 < 2 then (c.1, c.2) else if c.1 = 2 then (0, t) else if c.1 = 3 then (0, (σ.1 110 0).toInt - t) else _) = _
  rw [if_neg (by omega), if_neg (by omega), if_pos h]
theorem ev_4 {σ : zS} {w u t : Int} {c : Nat × Int} (h : c.1 = 4) (hf : fsJ w u (c32 c.2) < 480) : (EvM σ w u t).ld c.1 c.2 = itJ σ (fsJ w u (c32 c.2)) 0 := by
  show (if c.1 < 2 then (c.1, c.2) else if c.1 = 2 then (0, t) else if c.1 = 3 then (0, (σ.1 110 0).toInt - t) else if c.1 = 4 then gd (fsJ w u (c32 c.2)) (itJ σ (fsJ w u (c32 c.2)) 0) else _) = _
  rw [if_neg (by omega), if_neg (by omega), if_neg (by omega), if_pos h, gd_in hf]
theorem ev_6 {σ : zS} {w u t : Int} {c : Nat × Int} (h : c.1 = 6) (hf : fsJ w u (c32 c.2) < 480) : (EvM σ w u t).ld c.1 c.2 = ((if (σ.1 121 (fsJ w u (c32 c.2))).toInt = 0 then 2 else 0), (σ.1 122 (fsJ w u (c32 c.2))).toInt) := by
  show (if c.1 < 2 then (c.1, c.2) else if c.1 = 2 then (0, t) else if c.1 = 3 then (0, (σ.1 110 0).toInt - t) else if c.1 = 4 then gd (fsJ w u (c32 c.2)) (itJ σ (fsJ w u (c32 c.2)) 0) else gd (fsJ w u (c32 c.2)) _) = _
  rw [if_neg (by omega), if_neg (by omega), if_neg (by omega), if_neg (by omega), gd_in hf]
theorem ev_pa {σ : zS} {w u t : Int} {f : Int} (hf : fsJ w u (c32 f) < 480) : (EvM σ w u t).pa f = paJ σ (fsJ w u (c32 f)) := by
  funext v
  show gd (fsJ w u (c32 f)) (paJ σ (fsJ w u (c32 f)) v) = _
  rw [gd_in hf]
theorem ev_mg {σ : zS} {w u t : Int} {f : Int} (hf : fsJ w u (c32 f) < 480) : (EvM σ w u t).mg f = mgJ σ (fsJ w u (c32 f)) := by
  funext v
  show gd (fsJ w u (c32 f)) (mgJ σ (fsJ w u (c32 f)) v) = _
  rw [gd_in hf]
theorem ev_kn {σ : zS} {w u t : Int} {f : Int} (hf : fsJ w u (c32 f) < 480) : (EvM σ w u t).kn f = if (σ.1 121 (fsJ w u (c32 f))).toInt = 0 then (5, 0) else (4, 0) := by
  show (if fsJ w u (c32 f) < 480 ∧ ¬ (σ.1 121 (fsJ w u (c32 f))).toInt = 0 then ((4, 0) : EntJ) else (5, 0)) = _
  by_cases h : (σ.1 121 (fsJ w u (c32 f))).toInt = 0
  · rw [if_neg (fun q => q.2 h), if_pos h]
  · rw [if_pos ⟨hf, h⟩, if_neg h]
theorem ev_ng0 {σ : zS} {w u t : Int} {x : EntJ} {v : Int64} (h : x.1 = 0) (hv : v.toInt = x.2) : (EvM σ w u t).ng x = (0, (-v).toInt) := by
  show ngJ x = _
  unfold ngJ; rw [if_pos h, of_i hv]
theorem ev_ng1 {σ : zS} {w u t : Int} {x : EntJ} {v : Int64} (h : x.1 = 1) (hv : v.toInt = ngF x.2) : (EvM σ w u t).ng x = (1, v.toInt) := by
  show ngJ x = _
  unfold ngJ; rw [if_neg (by omega), hv]
theorem ev_age {σ : zS} {t : Int32} (hn : 0 ≤ (σ.1 110 0).toInt ∧ (σ.1 110 0).toInt ≤ 1000000000) (ht : 0 ≤ t.toInt ∧ t.toInt ≤ 1000000000) : (Int32.toInt64 (σ.1 110 0) - Int32.toInt64 t).toInt = (σ.1 110 0).toInt - t.toInt := by
  rw [Int64.toInt_sub, i2l_i, i2l_i, Int.bmod_eq_of_le (by omega) (by omega)]
theorem nt_4 {x : EntJ} (h : x.1 = 4) : nt9 x = (5, x.2) := by unfold nt9; rw [if_pos h]
theorem nt_5 {x : EntJ} (h : x.1 = 5) : nt9 x = (4, x.2) := by unfold nt9; rw [if_neg (by omega), if_pos h]
theorem nt_o {x : EntJ} (h : x.1 ≠ 4) (h2 : x.1 ≠ 5) : nt9 x = (x.1, x.2) := by unfold nt9; rw [if_neg h, if_neg h2]
theorem mst_len (E : EvJ) (c : Nat × Int) (S : List EntJ) : (mst9 E c S).length ≤ S.length + 1 := by
  rcases S with _ | ⟨x, _ | ⟨y, S⟩⟩
  · unfold mst9
    by_cases h1 : c.1 = 5
    · rw [if_pos h1]; exact Nat.zero_le _
    rw [if_neg h1]
    by_cases h2 : c.1 = 7
    · rw [if_pos h2]; exact Nat.zero_le _
    rw [if_neg h2]
    by_cases h3 : c.1 < 7
    · rw [if_pos h3]; exact Nat.le_refl _
    rw [if_neg h3]
    by_cases h4 : c.1 < 13
    · rw [if_pos h4]; exact Nat.zero_le _
    rw [if_neg h4]
    by_cases h5 : c.1 = 13
    · rw [if_pos h5]; exact Nat.zero_le _
    rw [if_neg h5]
    by_cases h6 : c.1 = 14
    · rw [if_pos h6]; exact Nat.zero_le _
    rw [if_neg h6]
    by_cases h7 : c.1 = 15
    · rw [if_pos h7]; exact Nat.le_refl _
    rw [if_neg h7]
    by_cases h8 : c.1 = 16
    · rw [if_pos h8]; exact Nat.zero_le _
    rw [if_neg h8]
    by_cases h9 : c.1 = 17
    · rw [if_pos h9]; exact Nat.zero_le _
    rw [if_neg h9]; exact Nat.zero_le _
  · unfold mst9
    by_cases h1 : c.1 = 5
    · rw [if_pos h1]; exact Nat.le_succ _
    rw [if_neg h1]
    by_cases h2 : c.1 = 7
    · rw [if_pos h2]; exact Nat.le_succ _
    rw [if_neg h2]
    by_cases h3 : c.1 < 7
    · rw [if_pos h3]; exact Nat.le_refl _
    rw [if_neg h3]
    by_cases h4 : c.1 < 13
    · rw [if_pos h4]; exact Nat.zero_le _
    rw [if_neg h4]
    by_cases h5 : c.1 = 13
    · rw [if_pos h5]; exact Nat.zero_le _
    rw [if_neg h5]
    by_cases h6 : c.1 = 14
    · rw [if_pos h6]; exact Nat.le_succ _
    rw [if_neg h6]
    by_cases h7 : c.1 = 15
    · rw [if_pos h7]; exact Nat.le_refl _
    rw [if_neg h7]
    by_cases h8 : c.1 = 16
    · rw [if_pos h8]; exact Nat.le_succ _
    rw [if_neg h8]
    by_cases h9 : c.1 = 17
    · rw [if_pos h9]; exact Nat.zero_le _
    rw [if_neg h9]; exact Nat.zero_le _
  · unfold mst9
    have s1 : S.length + 1 ≤ (x :: y :: S).length + 1 := by simp only [List.length_cons]; omega
    have s2 : S.length + 1 + 1 ≤ (x :: y :: S).length + 1 := by simp only [List.length_cons]; omega
    by_cases h1 : c.1 = 5
    · rw [if_pos h1]; exact s2
    rw [if_neg h1]
    by_cases h2 : c.1 = 7
    · rw [if_pos h2]; exact s2
    rw [if_neg h2]
    by_cases h3 : c.1 < 7
    · rw [if_pos h3]; exact Nat.le_refl _
    rw [if_neg h3]
    by_cases h4 : c.1 < 13
    · rw [if_pos h4]; exact s1
    rw [if_neg h4]
    by_cases h5 : c.1 = 13
    · rw [if_pos h5]; exact s1
    rw [if_neg h5]
    by_cases h6 : c.1 = 14
    · rw [if_pos h6]; exact s2
    rw [if_neg h6]
    by_cases h7 : c.1 = 15
    · rw [if_pos h7]; exact Nat.le_refl _
    rw [if_neg h7]
    by_cases h8 : c.1 = 16
    · rw [if_pos h8]; exact s2
    rw [if_neg h8]
    by_cases h9 : c.1 = 17
    · rw [if_pos h9]; exact s1
    rw [if_neg h9]; exact s1
theorem ms_0 {σ τ : zS} (h : zI σ 110 64 0 = τ) : MsJ σ τ [] := by
  refine ⟨⟨fun k j _ q => by rw [← h, yI_ne q], fun k j _ => by rw [← h, yI_l]⟩, by rw [← h, yI_at]; decide, by decide, trivial⟩
theorem CoK.one {σ : zS} {n j : Nat} {h : Int} (c : CoK σ n j h) (hj : 0 < j) : n < 10400 := (c.2 n (Nat.le_refl n) (by omega)).1

end
end
