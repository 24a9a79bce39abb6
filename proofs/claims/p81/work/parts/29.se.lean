section
noncomputable section
/-! ===== GROUPS, 45: bits that are worked out ===== -/
noncomputable def PBt (J : Jt) : Prop := (∀ H σ t o b, R840 t o b → J H σ → J ((840, t) :: (841, o) :: (842, b) :: hdel 840 (hdel 841 (hdel 842 H))) σ) ∧ (∀ H σ t o w c, R843 t o w c → J H σ → J ((843, t) :: (844, o) :: (845, w) :: (846, c) :: hdel 843 (hdel 844 (hdel 845 (hdel 846 H)))) σ) ∧ ∀ H σ x y v, R847 x y v → J H σ → J ((847, x) :: (848, y) :: (849, v) :: hdel 847 (hdel 848 (hdel 849 H))) σ
theorem rsT_cons {lo hi t : Nat} {x : Int} {H : List (Nat × Int)} (ht : inTg lo hi t = true) : rsT lo hi ((t, x) :: H) = set1 t (some x) (rsT lo hi H) := rsT_set ht (fun u => lk_cons)
theorem rsT_del {lo hi t : Nat} {H : List (Nat × Int)} (ht : inTg lo hi t = true) : rsT lo hi (hdel t H) = set1 t none (rsT lo hi H) := rsT_set ht (fun u => lk_hdel)
theorem rsT_nil {lo hi t : Nat} : rsT lo hi [] t = none := by
  unfold rsT
  cases Nat.ble lo t && Nat.ble t hi <;> rfl
section G45
variable {T : Jx} {G : Gl} {cs : List Cp} {RW : List Nat} {W : List (Nat × List Ru)}
theorem g_set (hP : PH T G cs (cR 840 999 RW SG W)) {H H' : List (Nat × Int)} {σ : zS} (hJ : Jf T G (cS cs) H σ) (l : ∀ u, ¬ (840 ≤ u ∧ u ≤ 999) → lk H' u = lk H u) (hn : SG (rsT 840 999 H') (rsM RW σ)) : Jf T G (cS cs) H' σ := Jf_part hP.1 hP.2.1 hP.2.2.2 (fun t ht => (hP.2.1 _ hP.2.2.1).1 t ht) (fun u hu => l u (fun q => by
  have hu : (Nat.ble 840 u && Nat.ble u 999) = false := hu
  rw [Nat.ble_eq_true_of_le q.1, Nat.ble_eq_true_of_le q.2] at hu
  cases hu)) hJ hn
theorem pbg_ok (hP : PH T G cs (cR 840 999 RW SG W)) : PBt (Jf T G (cS cs)) := by
  refine ⟨fun H σ t o b hR hJ => ?_, fun H σ t o w c hR hJ => ?_, fun H σ x y v hR hJ => ?_⟩
  · refine g_set hP hJ (fun u h => by rw [lk_cons, if_neg (by omega), lk_cons, if_neg (by omega), lk_cons, if_neg (by omega), lk_hdel, if_neg (by omega), lk_hdel, if_neg (by omega), lk_hdel, if_neg (by omega)]) ?_
    obtain ⟨⟨hA, hB⟩, hC, hD, hE⟩ := (hJ.2.2 _ hP.2.2.1 : SG (rsT 840 999 H) (rsM RW σ))
    rw [rsT_cons rfl, rsT_cons rfl, rsT_cons rfl, rsT_del rfl, rsT_del rfl, rsT_del rfl]
    refine ⟨⟨hA, fun t' o' b' h1 h2 h3 => ?_, hB.2.1, hB.2.2.1, hB.2.2.2⟩, hC, hD, hE⟩
    rw [← Option.some.inj (show some t = some t' from h1), ← Option.some.inj (show some o = some o' from h2), ← Option.some.inj (show some b = some b' from h3)]
    exact hR
  · refine g_set hP hJ (fun u h => by rw [lk_cons, if_neg (by omega), lk_cons, if_neg (by omega), lk_cons, if_neg (by omega), lk_cons, if_neg (by omega), lk_hdel, if_neg (by omega), lk_hdel, if_neg (by omega), lk_hdel, if_neg (by omega), lk_hdel, if_neg (by omega)]) ?_
    obtain ⟨⟨hA, hB⟩, hC, hD, hE⟩ := (hJ.2.2 _ hP.2.2.1 : SG (rsT 840 999 H) (rsM RW σ))
    rw [rsT_cons rfl, rsT_cons rfl, rsT_cons rfl, rsT_cons rfl, rsT_del rfl, rsT_del rfl, rsT_del rfl, rsT_del rfl]
    refine ⟨⟨hA, hB.1, fun t' o' w' c' h1 h2 h3 h4 => ?_, hB.2.2.1, hB.2.2.2⟩, hC, hD, hE⟩
    rw [← Option.some.inj (show some t = some t' from h1), ← Option.some.inj (show some o = some o' from h2), ← Option.some.inj (show some w = some w' from h3), ← Option.some.inj (show some c = some c' from h4)]
    exact hR
  · refine g_set hP hJ (fun u h => by rw [lk_cons, if_neg (by omega), lk_cons, if_neg (by omega), lk_cons, if_neg (by omega), lk_hdel, if_neg (by omega), lk_hdel, if_neg (by omega), lk_hdel, if_neg (by omega)]) ?_
    obtain ⟨⟨hA, hB⟩, hC, hD, hE⟩ := (hJ.2.2 _ hP.2.2.1 : SG (rsT 840 999 H) (rsM RW σ))
    rw [rsT_cons rfl, rsT_cons rfl, rsT_cons rfl, rsT_del rfl, rsT_del rfl, rsT_del rfl]
    refine ⟨⟨hA, hB.1, hB.2.1, fun x' y' v' h1 h2 h3 => ?_, hB.2.2.2⟩, hC, hD, hE⟩
    rw [← Option.some.inj (show some x = some x' from h1), ← Option.some.inj (show some y = some y' from h2), ← Option.some.inj (show some v = some v' from h3)]
    exact hR
end G45
end
end
section
/-! ===== PRODUCTS, 0: rules of any judgement that goes with steps ===== -/
noncomputable def mixD (D : Nat → Bool) (σ τ : zS) : zS := (fun k => bif D k then σ.1 k else τ.1 k, fun k => bif D k then σ.2 k else τ.2 k)
noncomputable def agD (D : Nat → Bool) (σ σ' : zS) : Prop := ∀ k, D k = false → σ'.1 k = σ.1 k ∧ σ'.2 k = σ.2 k
noncomputable abbrev Tt : Type := Nat → Nat → List (Nat × Value) → List Value → zS → Prop
/-- T goes with steps that look at the cells of D alone -/
noncomputable def Lft (E : xV) (Yf : Nat → xY) (D : Nat → Bool) (T : Tt) : Prop := ∀ (m pc : Nat) (l : List (Nat × Value)) (v : List Value) (σ : zS) (pc' : Nat) (l' : List (Nat × Value)) (v' : List Value) (σ' : zS), agD D σ σ' → (∀ (τ : zS) (K : zKt), Wz E (Yf m) pc' l' v' (mixD D σ' τ) K → Wz E (Yf m) pc l v (mixD D σ τ) K) → T m pc' l' v' σ' → T m pc l v σ
section PZ
variable {E : xV} {Yf : Nat → xY} {D : Nat → Bool} {T : Tt} {m pc pc' : Nat} {lv lv' : List (Nat × Value)} {st : List Value} {σ τ : zS}
theorem agD.rf : agD D σ σ := fun _ _ => ⟨rfl, rfl⟩
theorem agD.tr {a b c : zS} (h : agD D a b) (h' : agD D b c) : agD D a c := fun k q => ⟨(h' k q).1.trans (h k q).1, (h' k q).2.trans (h k q).2⟩
theorem mix1 {k : Nat} (h : D k = true) : (mixD D σ τ).1 k = σ.1 k := by simp only [mixD, h, cond_true]
theorem mix2 {k : Nat} (h : D k = true) : (mixD D σ τ).2 k = σ.2 k := by simp only [mixD, h, cond_true]
theorem mixIr {k : Nat} {f : Nat → Int32} (h : D k = true) : zIr (mixD D σ τ) k f = mixD D (zIr σ k f) τ := by
  refine Prod.ext (funext fun q => ?_) rfl
  simp only [zIr, mixD, xup]
  by_cases e : q = k
  · subst e; simp only [h, cond_true, if_true]
  · simp only [if_neg e]
theorem mixJr {k : Nat} {f : Nat → Int64} (h : D k = true) : zJr (mixD D σ τ) k f = mixD D (zJr σ k f) τ := by
  refine Prod.ext rfl (funext fun q => ?_)
  simp only [zJr, mixD, xup]
  by_cases e : q = k
  · subst e; simp only [h, cond_true, if_true]
  · simp only [if_neg e]
theorem mixI {k j : Nat} {x : Int32} (h : D k = true) : zI (mixD D σ τ) k j x = mixD D (zI σ k j x) τ := by
  show zIr (mixD D σ τ) k (upd ((mixD D σ τ).1 k) j x) = _
  rw [mix1 h]
  exact mixIr h
theorem mixJ {k j : Nat} {x : Int64} (h : D k = true) : zJ (mixD D σ τ) k j x = mixD D (zJ σ k j x) τ := by
  show zJr (mixD D σ τ) k (vp_updL ((mixD D σ τ).2 k) j x) = _
  rw [mix2 h]
  exact mixJr h
theorem agIr {k : Nat} {f : Nat → Int32} (h : D k = true) : agD D σ (zIr σ k f) := fun q hq => ⟨by
  have e : q ≠ k := fun e => by rw [e, h] at hq; cases hq
  simp only [zIr, xup, if_neg e], rfl⟩
theorem agJr {k : Nat} {f : Nat → Int64} (h : D k = true) : agD D σ (zJr σ k f) := fun q hq => ⟨rfl, by
  have e : q ≠ k := fun e => by rw [e, h] at hq; cases hq
  simp only [zJr, xup, if_neg e]⟩
theorem agI {k j : Nat} {x : Int32} (h : D k = true) : agD D σ (zI σ k j x) := agIr h
theorem agJ {k j : Nat} {x : Int64} (h : D k = true) : agD D σ (zJ σ k j x) := agJr h
theorem g_aald (hT : Lft E Yf D T) {k z i' : Nat} {i : Int32} (hk : k < 215) (hd : KD k = (103, [z])) (hi : vp_in i z) (hr : RF k i.toNatClampNeg = i' + 1) (d : decode (Yf m).2.1 pc = .ok (.aaload, 1) ∧ pc + 1 = pc') (kk : T m pc' lv (.ref i' :: st) σ) : T m pc lv (.int i :: .ref k :: st) σ := hT _ _ _ _ _ _ _ _ _ agD.rf (fun τ K q => z_aald hk hd hi hr d q) kk
theorem g_aload (hT : Lft E Yf D T) {i q : Nat} {x : Nat} (d : decode (Yf m).2.1 pc = .ok (.aload i, 2) ∧ pc + 2 = pc') (hq : lv[q]? = some (i, .ref x)) (k : T m pc' lv (.ref x :: st) σ) : T m pc lv st σ := hT _ _ _ _ _ _ _ _ _ agD.rf (fun τ K q => z_aload d hq q) k
theorem g_aload_n (hT : Lft E Yf D T) {f : Fin 4} {i q : Nat} {x : Nat} (d : decode (Yf m).2.1 pc = .ok (.aload_n f, 1) ∧ pc + 1 = pc') (hi : (f : Nat) = i) (hq : lv[q]? = some (i, .ref x)) (k : T m pc' lv (.ref x :: st) σ) : T m pc lv st σ := hT _ _ _ _ _ _ _ _ _ agD.rf (fun τ K q => z_aload_n d hi hq q) k
theorem g_astore_n (hT : Lft E Yf D T) {f : Fin 4} {i : Nat} {x : Nat} (d : decode (Yf m).2.1 pc = .ok (.astore_n f, 1) ∧ pc + 1 = pc') (hi : (f : Nat) = i) (hn : i < (Yf m).2.2.1) (hl' : (i, Value.ref x) :: lv.filter (fun q => !(q.1 == i) && !(q.1 + 1 == i && q.2.category == 2)) = lv') (k : T m pc' lv' st σ) : T m pc lv (.ref x :: st) σ := hT _ _ _ _ _ _ _ _ _ agD.rf (fun τ K q => z_astore_n d hi hn hl' q) k
theorem g_bipush (hT : Lft E Yf D T) {i : Int} {v : Int32} (d : decode (Yf m).2.1 pc = .ok (.bipush i, 2) ∧ pc + 2 = pc') (hv : (Int8.ofInt i).toInt32 = v) (k : T m pc' lv (.int v :: st) σ) : T m pc lv st σ := hT _ _ _ _ _ _ _ _ _ agD.rf (fun τ K q => z_bipush d hv q) k
theorem g_copyi (hT : Lft E Yf D T) {idx k0 k1 z0 z1 : Nat} {sp dp v : Int32} (hD0 : D k0 = true) (hD1 : D k1 = true) (w1 : Cond.methodLink (Yf m).1.cls idx arraycopyName ∈ TBg) (w2 : Cond.native arraycopyName ∈ TBg) (w3 : Cond.static arraycopyName ∈ TBg) (w4 : Cond.initialized "java/lang/System" ∈ TBg) (hk0 : k0 < 215) (hk1 : k1 < 215) (hd0 : KD k0 = (100, [z0])) (hd1 : KD k1 = (100, [z1])) (hb : ¬ sp < 0 ∧ ¬ dp < 0 ∧ ¬ v < 0 ∧ sp.toNatClampNeg + v.toNatClampNeg ≤ z0 ∧ dp.toNatClampNeg + v.toNatClampNeg ≤ z1) (hfr : 1 ≤ (Yf m).2.2.2.2.frames) (hlo : 40 ≤ (Yf m).2.2.2.2.locals) (hcat : (st.map fun v => v.category).sum ≤ 8) (d : decode (Yf m).2.1 pc = .ok (.invokestatic idx, 3) ∧ pc + 3 = pc') (kk : T m pc' lv st (zIr σ k1 (va_cpy (σ.1 k0) (σ.1 k1) sp.toNatClampNeg dp.toNatClampNeg v.toNatClampNeg)))  : T m pc lv (.int v :: .int dp :: .ref k1 :: .int sp :: .ref k0 :: st) σ := hT _ _ _ _ _ _ _ _ _ (agIr hD1) (fun τ K q => z_copyi w1 w2 w3 w4 hk0 hk1 hd0 hd1 hb hfr hlo hcat d (by rw [mix1 hD0, mix1 hD1, mixIr hD1]; exact q)) kk
theorem g_copyl (hT : Lft E Yf D T) {idx k0 k1 z0 z1 : Nat} {sp dp v : Int32} (hD0 : D k0 = true) (hD1 : D k1 = true) (w1 : Cond.methodLink (Yf m).1.cls idx arraycopyName ∈ TBg) (w2 : Cond.native arraycopyName ∈ TBg) (w3 : Cond.static arraycopyName ∈ TBg) (w4 : Cond.initialized "java/lang/System" ∈ TBg) (hk0 : k0 < 215) (hk1 : k1 < 215) (hd0 : KD k0 = (101, [z0])) (hd1 : KD k1 = (101, [z1])) (hb : ¬ sp < 0 ∧ ¬ dp < 0 ∧ ¬ v < 0 ∧ sp.toNatClampNeg + v.toNatClampNeg ≤ z0 ∧ dp.toNatClampNeg + v.toNatClampNeg ≤ z1) (hfr : 1 ≤ (Yf m).2.2.2.2.frames) (hlo : 40 ≤ (Yf m).2.2.2.2.locals) (hcat : (st.map fun v => v.category).sum ≤ 8) (d : decode (Yf m).2.1 pc = .ok (.invokestatic idx, 3) ∧ pc + 3 = pc') (kk : T m pc' lv st (zJr σ k1 (va_cpy (σ.2 k0) (σ.2 k1) sp.toNatClampNeg dp.toNatClampNeg v.toNatClampNeg)))  : T m pc lv (.int v :: .int dp :: .ref k1 :: .int sp :: .ref k0 :: st) σ := hT _ _ _ _ _ _ _ _ _ (agJr hD1) (fun τ K q => z_copyl w1 w2 w3 w4 hk0 hk1 hd0 hd1 hb hfr hlo hcat d (by rw [mix2 hD0, mix2 hD1, mixJr hD1]; exact q)) kk
theorem g_dup2ir (hT : Lft E Yf D T) {i : Int32} {x : Nat} (d : decode (Yf m).2.1 pc = .ok (.dup2, 1) ∧ pc + 1 = pc') (k : T m pc' lv (.int i :: .ref x :: .int i :: .ref x :: st) σ) : T m pc lv (.int i :: .ref x :: st) σ := hT _ _ _ _ _ _ _ _ _ agD.rf (fun τ K q => z_dup2ir d q) k
theorem g_dup2l (hT : Lft E Yf D T) {x : Int64} (d : decode (Yf m).2.1 pc = .ok (.dup2, 1) ∧ pc + 1 = pc') (k : T m pc' lv (.long x :: .long x :: st) σ) : T m pc lv (.long x :: st) σ := hT _ _ _ _ _ _ _ _ _ agD.rf (fun τ K q => z_dup2l d q) k
theorem g_dupi (hT : Lft E Yf D T) {x : Int32} (d : decode (Yf m).2.1 pc = .ok (.dup, 1) ∧ pc + 1 = pc') (k : T m pc' lv (.int x :: .int x :: st) σ) : T m pc lv (.int x :: st) σ := hT _ _ _ _ _ _ _ _ _ agD.rf (fun τ K q => z_dupi d q) k
theorem g_dupr (hT : Lft E Yf D T) {x : Nat} (d : decode (Yf m).2.1 pc = .ok (.dup, 1) ∧ pc + 1 = pc') (k : T m pc' lv (.ref x :: .ref x :: st) σ) : T m pc lv (.ref x :: st) σ := hT _ _ _ _ _ _ _ _ _ agD.rf (fun τ K q => z_dupr d q) k
theorem g_geti (hT : Lft E Yf D T) {k j idx ci : Nat} {l : List Nat} {ty : FieldType} {fin : Bool} (hD : D k = true) (F : xFl (Yf m).1.cls idx ci j ty fin) (hk : k < 215) (hd : KD k = (ci, l)) (hc : ci < 100) (hj : l[j]? = some 0) (d : decode (Yf m).2.1 pc = .ok (.getfield idx, 3) ∧ pc + 3 = pc') (kk : T m pc' lv (.int (σ.1 k j) :: st) σ) : T m pc lv (.ref k :: st) σ := hT _ _ _ _ _ _ _ _ _ agD.rf (fun τ K q => z_geti F hk hd hc hj d (by rw [mix1 hD]; exact q)) kk
theorem g_getj (hT : Lft E Yf D T) {k j idx ci : Nat} {l : List Nat} {ty : FieldType} {fin : Bool} (hD : D k = true) (F : xFl (Yf m).1.cls idx ci j ty fin) (hk : k < 215) (hd : KD k = (ci, l)) (hc : ci < 100) (hj : l[j]? = some 1) (d : decode (Yf m).2.1 pc = .ok (.getfield idx, 3) ∧ pc + 3 = pc') (kk : T m pc' lv (.long (σ.2 k j) :: st) σ) : T m pc lv (.ref k :: st) σ := hT _ _ _ _ _ _ _ _ _ agD.rf (fun τ K q => z_getj F hk hd hc hj d (by rw [mix2 hD]; exact q)) kk
theorem g_getr (hT : Lft E Yf D T) {k j i idx ci : Nat} {l : List Nat} {ty : FieldType} {fin : Bool} (F : xFl (Yf m).1.cls idx ci j ty fin) (hk : k < 215) (hd : KD k = (ci, l)) (hc : ci < 100) (hj : l[j]? = some 2) (hr : RF k j = i + 1) (d : decode (Yf m).2.1 pc = .ok (.getfield idx, 3) ∧ pc + 3 = pc') (kk : T m pc' lv (.ref i :: st) σ) : T m pc lv (.ref k :: st) σ := hT _ _ _ _ _ _ _ _ _ agD.rf (fun τ K q => z_getr F hk hd hc hj hr d q) kk
theorem g_getsC (hT : Lft E Yf D T) {idx : Nat} (hl : Cond.fieldLink (Yf m).1.cls idx "java/lang/String" "COMPACT_STRINGS" "Z" ∈ TBg) (d : decode (Yf m).2.1 pc = .ok (.getstatic idx, 3) ∧ pc + 3 = pc') (k : T m pc' lv (.int 1 :: st) σ) : T m pc lv st σ := hT _ _ _ _ _ _ _ _ _ agD.rf (fun τ K q => z_getsC hl d q) k
theorem g_getsR (hT : Lft E Yf D T) {idx : Nat} (hl : Cond.fieldLink (Yf m).1.cls idx "RightsHouse$Judge" "RANK" "[I" ∈ TBg) (d : decode (Yf m).2.1 pc = .ok (.getstatic idx, 3) ∧ pc + 3 = pc') (k : T m pc' lv (.ref 3001 :: st) σ) : T m pc lv st σ := hT _ _ _ _ _ _ _ _ _ agD.rf (fun τ K q => z_getsR hl d q) k
theorem g_goto (hT : Lft E Yf D T) {off : Int} {tgt : Nat} (d : decode (Yf m).2.1 pc = .ok (.goto off, 3) ∧ (pc : Int) + off = (tgt : Int) ∧ pc + 3 = pc') (k : T m tgt lv st σ) : T m pc lv st σ := hT _ _ _ _ _ _ _ _ _ agD.rf (fun τ K q => z_goto d q) k
theorem g_i2b (hT : Lft E Yf D T) {x v : Int32} (d : decode (Yf m).2.1 pc = .ok (.i2b, 1) ∧ pc + 1 = pc') (hv : x.toInt8.toInt32 = v) (k : T m pc' lv (.int v :: st) σ) : T m pc lv (.int x :: st) σ := hT _ _ _ _ _ _ _ _ _ agD.rf (fun τ K q => z_i2b d hv q) k
theorem g_i2c (hT : Lft E Yf D T) {x : Int32} {v : Int32} (d : decode (Yf m).2.1 pc = .ok (.i2c, 1) ∧ pc + 1 = pc') (hv : (x.toUInt32 % 65536).toInt32 = v) (k : T m pc' lv (.int v :: st) σ) : T m pc lv (.int x :: st) σ := hT _ _ _ _ _ _ _ _ _ agD.rf (fun τ K q => z_i2c d hv q) k
theorem g_i2l (hT : Lft E Yf D T) {x : Int32} {v : Int64} (d : decode (Yf m).2.1 pc = .ok (.i2l, 1) ∧ pc + 1 = pc') (hv : x.toInt64 = v) (k : T m pc' lv (.long v :: st) σ) : T m pc lv (.int x :: st) σ := hT _ _ _ _ _ _ _ _ _ agD.rf (fun τ K q => z_i2l d hv q) k
theorem g_iadd (hT : Lft E Yf D T) {x y : Int32} (d : decode (Yf m).2.1 pc = .ok (.iadd, 1) ∧ pc + 1 = pc') (k : T m pc' lv (.int (x + y) :: st) σ) : T m pc lv (.int y :: .int x :: st) σ := hT _ _ _ _ _ _ _ _ _ agD.rf (fun τ K q => z_iadd d q) k
theorem g_iald (hT : Lft E Yf D T) {k z : Nat} {i : Int32} (hD : D k = true) (hk : k < 215) (hd : KD k = (100, [z])) (hi : vp_in i z) (d : decode (Yf m).2.1 pc = .ok (.iaload, 1) ∧ pc + 1 = pc') (kk : T m pc' lv (.int (σ.1 k i.toNatClampNeg) :: st) σ) : T m pc lv (.int i :: .ref k :: st) σ := hT _ _ _ _ _ _ _ _ _ agD.rf (fun τ K q => z_iald hk hd hi d (by rw [mix1 hD]; exact q)) kk
theorem g_iand (hT : Lft E Yf D T) {x y : Int32} (d : decode (Yf m).2.1 pc = .ok (.iand, 1) ∧ pc + 1 = pc') (k : T m pc' lv (.int (x &&& y) :: st) σ) : T m pc lv (.int y :: .int x :: st) σ := hT _ _ _ _ _ _ _ _ _ agD.rf (fun τ K q => z_iand d q) k
theorem g_iast (hT : Lft E Yf D T) {k z : Nat} {i : Int32} {x : Int32} (hD : D k = true) (hk : k < 215) (hd : KD k = (100, [z])) (hi : vp_in i z) (d : decode (Yf m).2.1 pc = .ok (.iastore, 1) ∧ pc + 1 = pc') (kk : T m pc' lv st (zI σ k i.toNatClampNeg x)) : T m pc lv (.int x :: .int i :: .ref k :: st) σ := hT _ _ _ _ _ _ _ _ _ (agI hD) (fun τ K q => z_iast hk hd hi d (by rw [mixI hD]; exact q)) kk
theorem g_icmp_eq (hT : Lft E Yf D T) {x y : Int32} {off : Int} {tgt : Nat} (d : decode (Yf m).2.1 pc = .ok (.if_icmp .eq off, 3) ∧ (pc : Int) + off = (tgt : Int) ∧ pc + 3 = pc') (kt : x = y → T m tgt lv st σ) (kf : ¬ x = y → T m pc' lv st σ) : T m pc lv (.int y :: .int x :: st) σ := by
  by_cases h : x = y
  · exact hT _ _ _ _ _ _ _ _ _ agD.rf (fun τ K q => z_icmp_eq d (fun _ => q) (fun h9 => absurd h h9)) (kt h)
  · exact hT _ _ _ _ _ _ _ _ _ agD.rf (fun τ K q => z_icmp_eq d (fun h9 => absurd h9 h) (fun _ => q)) (kf h)
theorem g_icmp_ge (hT : Lft E Yf D T) {x y : Int32} {off : Int} {tgt : Nat} (d : decode (Yf m).2.1 pc = .ok (.if_icmp .ge off, 3) ∧ (pc : Int) + off = (tgt : Int) ∧ pc + 3 = pc') (kt : y ≤ x → T m tgt lv st σ) (kf : ¬ y ≤ x → T m pc' lv st σ) : T m pc lv (.int y :: .int x :: st) σ := by
  by_cases h : y ≤ x
  · exact hT _ _ _ _ _ _ _ _ _ agD.rf (fun τ K q => z_icmp_ge d (fun _ => q) (fun h9 => absurd h h9)) (kt h)
  · exact hT _ _ _ _ _ _ _ _ _ agD.rf (fun τ K q => z_icmp_ge d (fun h9 => absurd h9 h) (fun _ => q)) (kf h)
theorem g_icmp_gt (hT : Lft E Yf D T) {x y : Int32} {off : Int} {tgt : Nat} (d : decode (Yf m).2.1 pc = .ok (.if_icmp .gt off, 3) ∧ (pc : Int) + off = (tgt : Int) ∧ pc + 3 = pc') (kt : y < x → T m tgt lv st σ) (kf : ¬ y < x → T m pc' lv st σ) : T m pc lv (.int y :: .int x :: st) σ := by
  by_cases h : y < x
  · exact hT _ _ _ _ _ _ _ _ _ agD.rf (fun τ K q => z_icmp_gt d (fun _ => q) (fun h9 => absurd h h9)) (kt h)
  · exact hT _ _ _ _ _ _ _ _ _ agD.rf (fun τ K q => z_icmp_gt d (fun h9 => absurd h9 h) (fun _ => q)) (kf h)
theorem g_icmp_le (hT : Lft E Yf D T) {x y : Int32} {off : Int} {tgt : Nat} (d : decode (Yf m).2.1 pc = .ok (.if_icmp .le off, 3) ∧ (pc : Int) + off = (tgt : Int) ∧ pc + 3 = pc') (kt : x ≤ y → T m tgt lv st σ) (kf : ¬ x ≤ y → T m pc' lv st σ) : T m pc lv (.int y :: .int x :: st) σ := by
  by_cases h : x ≤ y
  · exact hT _ _ _ _ _ _ _ _ _ agD.rf (fun τ K q => z_icmp_le d (fun _ => q) (fun h9 => absurd h h9)) (kt h)
  · exact hT _ _ _ _ _ _ _ _ _ agD.rf (fun τ K q => z_icmp_le d (fun h9 => absurd h9 h) (fun _ => q)) (kf h)
theorem g_icmp_lt (hT : Lft E Yf D T) {x y : Int32} {off : Int} {tgt : Nat} (d : decode (Yf m).2.1 pc = .ok (.if_icmp .lt off, 3) ∧ (pc : Int) + off = (tgt : Int) ∧ pc + 3 = pc') (kt : x < y → T m tgt lv st σ) (kf : ¬ x < y → T m pc' lv st σ) : T m pc lv (.int y :: .int x :: st) σ := by
  by_cases h : x < y
  · exact hT _ _ _ _ _ _ _ _ _ agD.rf (fun τ K q => z_icmp_lt d (fun _ => q) (fun h9 => absurd h h9)) (kt h)
  · exact hT _ _ _ _ _ _ _ _ _ agD.rf (fun τ K q => z_icmp_lt d (fun h9 => absurd h9 h) (fun _ => q)) (kf h)
theorem g_icmp_ne (hT : Lft E Yf D T) {x y : Int32} {off : Int} {tgt : Nat} (d : decode (Yf m).2.1 pc = .ok (.if_icmp .ne off, 3) ∧ (pc : Int) + off = (tgt : Int) ∧ pc + 3 = pc') (kt : ¬ x = y → T m tgt lv st σ) (kf : x = y → T m pc' lv st σ) : T m pc lv (.int y :: .int x :: st) σ := by
  by_cases h : x = y
  · exact hT _ _ _ _ _ _ _ _ _ agD.rf (fun τ K q => z_icmp_ne d (fun h9 => absurd h h9) (fun _ => q)) (kf h)
  · exact hT _ _ _ _ _ _ _ _ _ agD.rf (fun τ K q => z_icmp_ne d (fun _ => q) (fun h9 => absurd h9 h)) (kt h)
theorem g_iconst (hT : Lft E Yf D T) {i : Int} {v : Int32} (d : decode (Yf m).2.1 pc = .ok (.iconst i, 1) ∧ pc + 1 = pc') (hv : Int32.ofInt i = v) (k : T m pc' lv (.int v :: st) σ) : T m pc lv st σ := hT _ _ _ _ _ _ _ _ _ agD.rf (fun τ K q => z_iconst d hv q) k
theorem g_idiv (hT : Lft E Yf D T) {x y : Int32} (d : decode (Yf m).2.1 pc = .ok (.idiv, 1) ∧ pc + 1 = pc') (hne : ¬ y = 0) (k : T m pc' lv (.int (x / y) :: st) σ) : T m pc lv (.int y :: .int x :: st) σ := hT _ _ _ _ _ _ _ _ _ agD.rf (fun τ K q => z_idiv d hne q) k
theorem g_if_eq (hT : Lft E Yf D T) {x : Int32} {off : Int} {tgt : Nat} (d : decode (Yf m).2.1 pc = .ok (.ifCond .eq off, 3) ∧ (pc : Int) + off = (tgt : Int) ∧ pc + 3 = pc') (kt : x = 0 → T m tgt lv st σ) (kf : ¬ x = 0 → T m pc' lv st σ) : T m pc lv (.int x :: st) σ := by
  by_cases h : x = 0
  · exact hT _ _ _ _ _ _ _ _ _ agD.rf (fun τ K q => z_if_eq d (fun _ => q) (fun h9 => absurd h h9)) (kt h)
  · exact hT _ _ _ _ _ _ _ _ _ agD.rf (fun τ K q => z_if_eq d (fun h9 => absurd h9 h) (fun _ => q)) (kf h)
theorem g_if_ge (hT : Lft E Yf D T) {x : Int32} {off : Int} {tgt : Nat} (d : decode (Yf m).2.1 pc = .ok (.ifCond .ge off, 3) ∧ (pc : Int) + off = (tgt : Int) ∧ pc + 3 = pc') (kt : 0 ≤ x → T m tgt lv st σ) (kf : ¬ 0 ≤ x → T m pc' lv st σ) : T m pc lv (.int x :: st) σ := by
  by_cases h : 0 ≤ x
  · exact hT _ _ _ _ _ _ _ _ _ agD.rf (fun τ K q => z_if_ge d (fun _ => q) (fun h9 => absurd h h9)) (kt h)
  · exact hT _ _ _ _ _ _ _ _ _ agD.rf (fun τ K q => z_if_ge d (fun h9 => absurd h9 h) (fun _ => q)) (kf h)
theorem g_if_gt (hT : Lft E Yf D T) {x : Int32} {off : Int} {tgt : Nat} (d : decode (Yf m).2.1 pc = .ok (.ifCond .gt off, 3) ∧ (pc : Int) + off = (tgt : Int) ∧ pc + 3 = pc') (kt : 0 < x → T m tgt lv st σ) (kf : ¬ 0 < x → T m pc' lv st σ) : T m pc lv (.int x :: st) σ := by
  by_cases h : 0 < x
  · exact hT _ _ _ _ _ _ _ _ _ agD.rf (fun τ K q => z_if_gt d (fun _ => q) (fun h9 => absurd h h9)) (kt h)
  · exact hT _ _ _ _ _ _ _ _ _ agD.rf (fun τ K q => z_if_gt d (fun h9 => absurd h9 h) (fun _ => q)) (kf h)
theorem g_if_le (hT : Lft E Yf D T) {x : Int32} {off : Int} {tgt : Nat} (d : decode (Yf m).2.1 pc = .ok (.ifCond .le off, 3) ∧ (pc : Int) + off = (tgt : Int) ∧ pc + 3 = pc') (kt : x ≤ 0 → T m tgt lv st σ) (kf : ¬ x ≤ 0 → T m pc' lv st σ) : T m pc lv (.int x :: st) σ := by
  by_cases h : x ≤ 0
  · exact hT _ _ _ _ _ _ _ _ _ agD.rf (fun τ K q => z_if_le d (fun _ => q) (fun h9 => absurd h h9)) (kt h)
  · exact hT _ _ _ _ _ _ _ _ _ agD.rf (fun τ K q => z_if_le d (fun h9 => absurd h9 h) (fun _ => q)) (kf h)
theorem g_if_lt (hT : Lft E Yf D T) {x : Int32} {off : Int} {tgt : Nat} (d : decode (Yf m).2.1 pc = .ok (.ifCond .lt off, 3) ∧ (pc : Int) + off = (tgt : Int) ∧ pc + 3 = pc') (kt : x < 0 → T m tgt lv st σ) (kf : ¬ x < 0 → T m pc' lv st σ) : T m pc lv (.int x :: st) σ := by
  by_cases h : x < 0
  · exact hT _ _ _ _ _ _ _ _ _ agD.rf (fun τ K q => z_if_lt d (fun _ => q) (fun h9 => absurd h h9)) (kt h)
  · exact hT _ _ _ _ _ _ _ _ _ agD.rf (fun τ K q => z_if_lt d (fun h9 => absurd h9 h) (fun _ => q)) (kf h)
theorem g_if_ne (hT : Lft E Yf D T) {x : Int32} {off : Int} {tgt : Nat} (d : decode (Yf m).2.1 pc = .ok (.ifCond .ne off, 3) ∧ (pc : Int) + off = (tgt : Int) ∧ pc + 3 = pc') (kt : ¬ x = 0 → T m tgt lv st σ) (kf : x = 0 → T m pc' lv st σ) : T m pc lv (.int x :: st) σ := by
  by_cases h : x = 0
  · exact hT _ _ _ _ _ _ _ _ _ agD.rf (fun τ K q => z_if_ne d (fun h9 => absurd h h9) (fun _ => q)) (kf h)
  · exact hT _ _ _ _ _ _ _ _ _ agD.rf (fun τ K q => z_if_ne d (fun _ => q) (fun h9 => absurd h9 h)) (kt h)
theorem g_iinc (hT : Lft E Yf D T) {i q : Nat} {z : Int} {x v : Int32} (d : decode (Yf m).2.1 pc = .ok (.iinc i z, 3) ∧ pc + 3 = pc') (hq : lv[q]? = some (i, .int x)) (hv : x + Int32.ofInt z = v) (hn : i < (Yf m).2.2.1) (hl' : (i, Value.int v) :: lv.filter (fun q => !(q.1 == i) && !(q.1 + 1 == i && q.2.category == 2)) = lv') (k : T m pc' lv' st σ) : T m pc lv st σ := hT _ _ _ _ _ _ _ _ _ agD.rf (fun τ K q => z_iinc d hq hv hn hl' q) k
theorem g_iload (hT : Lft E Yf D T) {i q : Nat} {x : Int32} (d : decode (Yf m).2.1 pc = .ok (.iload i, 2) ∧ pc + 2 = pc') (hq : lv[q]? = some (i, .int x)) (k : T m pc' lv (.int x :: st) σ) : T m pc lv st σ := hT _ _ _ _ _ _ _ _ _ agD.rf (fun τ K q => z_iload d hq q) k
theorem g_iload_n (hT : Lft E Yf D T) {f : Fin 4} {i q : Nat} {x : Int32} (d : decode (Yf m).2.1 pc = .ok (.iload_n f, 1) ∧ pc + 1 = pc') (hi : (f : Nat) = i) (hq : lv[q]? = some (i, .int x)) (k : T m pc' lv (.int x :: st) σ) : T m pc lv st σ := hT _ _ _ _ _ _ _ _ _ agD.rf (fun τ K q => z_iload_n d hi hq q) k
theorem g_imul (hT : Lft E Yf D T) {x y : Int32} (d : decode (Yf m).2.1 pc = .ok (.imul, 1) ∧ pc + 1 = pc') (k : T m pc' lv (.int (x * y) :: st) σ) : T m pc lv (.int y :: .int x :: st) σ := hT _ _ _ _ _ _ _ _ _ agD.rf (fun τ K q => z_imul d q) k
theorem g_ineg (hT : Lft E Yf D T) {x : Int32} (d : decode (Yf m).2.1 pc = .ok (.ineg, 1) ∧ pc + 1 = pc') (k : T m pc' lv (.int (-x) :: st) σ) : T m pc lv (.int x :: st) σ := hT _ _ _ _ _ _ _ _ _ agD.rf (fun τ K q => z_ineg d q) k
theorem g_ior (hT : Lft E Yf D T) {x y : Int32} (d : decode (Yf m).2.1 pc = .ok (.ior, 1) ∧ pc + 1 = pc') (k : T m pc' lv (.int (x ||| y) :: st) σ) : T m pc lv (.int y :: .int x :: st) σ := hT _ _ _ _ _ _ _ _ _ agD.rf (fun τ K q => z_ior d q) k
theorem g_irem (hT : Lft E Yf D T) {x y : Int32} (d : decode (Yf m).2.1 pc = .ok (.irem, 1) ∧ pc + 1 = pc') (hne : ¬ y = 0) (k : T m pc' lv (.int (x - x / y * y) :: st) σ) : T m pc lv (.int y :: .int x :: st) σ := hT _ _ _ _ _ _ _ _ _ agD.rf (fun τ K q => z_irem d hne q) k
theorem g_ishl (hT : Lft E Yf D T) {x y : Int32} (d : decode (Yf m).2.1 pc = .ok (.ishl, 1) ∧ pc + 1 = pc') (k : T m pc' lv (.int (x <<< (y &&& 31)) :: st) σ) : T m pc lv (.int y :: .int x :: st) σ := hT _ _ _ _ _ _ _ _ _ agD.rf (fun τ K q => z_ishl d q) k
theorem g_ishr (hT : Lft E Yf D T) {x y : Int32} (d : decode (Yf m).2.1 pc = .ok (.ishr, 1) ∧ pc + 1 = pc') (k : T m pc' lv (.int (x >>> (y &&& 31)) :: st) σ) : T m pc lv (.int y :: .int x :: st) σ := hT _ _ _ _ _ _ _ _ _ agD.rf (fun τ K q => z_ishr d q) k
theorem g_istore (hT : Lft E Yf D T) {i : Nat} {x : Int32} (d : decode (Yf m).2.1 pc = .ok (.istore i, 2) ∧ pc + 2 = pc') (hn : i < (Yf m).2.2.1) (hl' : (i, Value.int x) :: lv.filter (fun q => !(q.1 == i) && !(q.1 + 1 == i && q.2.category == 2)) = lv') (k : T m pc' lv' st σ) : T m pc lv (.int x :: st) σ := hT _ _ _ _ _ _ _ _ _ agD.rf (fun τ K q => z_istore d hn hl' q) k
theorem g_istore_n (hT : Lft E Yf D T) {f : Fin 4} {i : Nat} {x : Int32} (d : decode (Yf m).2.1 pc = .ok (.istore_n f, 1) ∧ pc + 1 = pc') (hi : (f : Nat) = i) (hn : i < (Yf m).2.2.1) (hl' : (i, Value.int x) :: lv.filter (fun q => !(q.1 == i) && !(q.1 + 1 == i && q.2.category == 2)) = lv') (k : T m pc' lv' st σ) : T m pc lv (.int x :: st) σ := hT _ _ _ _ _ _ _ _ _ agD.rf (fun τ K q => z_istore_n d hi hn hl' q) k
theorem g_isub (hT : Lft E Yf D T) {x y : Int32} (d : decode (Yf m).2.1 pc = .ok (.isub, 1) ∧ pc + 1 = pc') (k : T m pc' lv (.int (x - y) :: st) σ) : T m pc lv (.int y :: .int x :: st) σ := hT _ _ _ _ _ _ _ _ _ agD.rf (fun τ K q => z_isub d q) k
theorem g_iushr (hT : Lft E Yf D T) {x y v : Int32} (d : decode (Yf m).2.1 pc = .ok (.iushr, 1) ∧ pc + 1 = pc') (hv : (x.toUInt32 >>> (y.toUInt32 &&& Int32.toUInt32 31)).toInt32 = v) (k : T m pc' lv (.int v :: st) σ) : T m pc lv (.int y :: .int x :: st) σ := hT _ _ _ _ _ _ _ _ _ agD.rf (fun τ K q => z_iushr d hv q) k
theorem g_ixor (hT : Lft E Yf D T) {x y : Int32} (d : decode (Yf m).2.1 pc = .ok (.ixor, 1) ∧ pc + 1 = pc') (k : T m pc' lv (.int (x ^^^ y) :: st) σ) : T m pc lv (.int y :: .int x :: st) σ := hT _ _ _ _ _ _ _ _ _ agD.rf (fun τ K q => z_ixor d q) k
theorem g_l2i (hT : Lft E Yf D T) {x : Int64} {v : Int32} (d : decode (Yf m).2.1 pc = .ok (.l2i, 1) ∧ pc + 1 = pc') (hv : x.toInt32 = v) (k : T m pc' lv (.int v :: st) σ) : T m pc lv (.long x :: st) σ := hT _ _ _ _ _ _ _ _ _ agD.rf (fun τ K q => z_l2i d hv q) k
theorem g_ladd (hT : Lft E Yf D T) {x y : Int64} (d : decode (Yf m).2.1 pc = .ok (.ladd, 1) ∧ pc + 1 = pc') (k : T m pc' lv (.long (x + y) :: st) σ) : T m pc lv (.long y :: .long x :: st) σ := hT _ _ _ _ _ _ _ _ _ agD.rf (fun τ K q => z_ladd d q) k
theorem g_lald (hT : Lft E Yf D T) {k z : Nat} {i : Int32} (hD : D k = true) (hk : k < 215) (hd : KD k = (101, [z])) (hi : vp_in i z) (d : decode (Yf m).2.1 pc = .ok (.laload, 1) ∧ pc + 1 = pc') (kk : T m pc' lv (.long (σ.2 k i.toNatClampNeg) :: st) σ) : T m pc lv (.int i :: .ref k :: st) σ := hT _ _ _ _ _ _ _ _ _ agD.rf (fun τ K q => z_lald hk hd hi d (by rw [mix2 hD]; exact q)) kk
theorem g_land (hT : Lft E Yf D T) {x y : Int64} (d : decode (Yf m).2.1 pc = .ok (.land, 1) ∧ pc + 1 = pc') (k : T m pc' lv (.long (x &&& y) :: st) σ) : T m pc lv (.long y :: .long x :: st) σ := hT _ _ _ _ _ _ _ _ _ agD.rf (fun τ K q => z_land d q) k
theorem g_last (hT : Lft E Yf D T) {k z : Nat} {i : Int32} {x : Int64} (hD : D k = true) (hk : k < 215) (hd : KD k = (101, [z])) (hi : vp_in i z) (d : decode (Yf m).2.1 pc = .ok (.lastore, 1) ∧ pc + 1 = pc') (kk : T m pc' lv st (zJ σ k i.toNatClampNeg x)) : T m pc lv (.long x :: .int i :: .ref k :: st) σ := hT _ _ _ _ _ _ _ _ _ (agJ hD) (fun τ K q => z_last hk hd hi d (by rw [mixJ hD]; exact q)) kk
theorem g_lcmp (hT : Lft E Yf D T) {x y : Int64} (d : decode (Yf m).2.1 pc = .ok (.lcmp, 1) ∧ pc + 1 = pc') (k : T m pc' lv (.int (lg_cmp x y) :: st) σ) : T m pc lv (.long y :: .long x :: st) σ := hT _ _ _ _ _ _ _ _ _ agD.rf (fun τ K q => z_lcmp d q) k
theorem g_lconst (hT : Lft E Yf D T) {i : Fin 2} {v : Int64} (d : decode (Yf m).2.1 pc = .ok (.lconst i, 1) ∧ pc + 1 = pc') (hv : Int64.ofNat (i : Nat) = v) (k : T m pc' lv (.long v :: st) σ) : T m pc lv st σ := hT _ _ _ _ _ _ _ _ _ agD.rf (fun τ K q => z_lconst d hv q) k
theorem g_ldc (hT : Lft E Yf D T) {i : Nat} {v : Int32} (d : decode (Yf m).2.1 pc = .ok (.ldc i, 2) ∧ pc + 2 = pc') (hw : Cond.constant (Yf m).1.cls i v ∈ TBg) (k : T m pc' lv (.int v :: st) σ) : T m pc lv st σ := hT _ _ _ _ _ _ _ _ _ agD.rf (fun τ K q => z_ldc d hw q) k
theorem g_ldc2 (hT : Lft E Yf D T) {i : Nat} {v : Int64} (d : decode (Yf m).2.1 pc = .ok (.ldc2_w i, 3) ∧ pc + 3 = pc') (hw : Cond.constantLong (Yf m).1.cls i v ∈ TBg) (k : T m pc' lv (.long v :: st) σ) : T m pc lv st σ := hT _ _ _ _ _ _ _ _ _ agD.rf (fun τ K q => z_ldc2 d hw q) k
theorem g_ldcS (hT : Lft E Yf D T) {i : Nat} {q : String × (Nat × String)} (hq : STR[i]? = some q) (hY : (Yf m).1.cls = q.1) (d : decode (Yf m).2.1 pc = .ok (.ldc q.2.1, 2) ∧ pc + 2 = pc') (k : T m pc' lv (.ref (1000 + i) :: st) σ) : T m pc lv st σ := hT _ _ _ _ _ _ _ _ _ agD.rf (fun τ K q => z_ldcS hq hY d q) k
theorem g_ldcw (hT : Lft E Yf D T) {i : Nat} {v : Int32} (d : decode (Yf m).2.1 pc = .ok (.ldc_w i, 3) ∧ pc + 3 = pc') (hw : Cond.constant (Yf m).1.cls i v ∈ TBg) (k : T m pc' lv (.int v :: st) σ) : T m pc lv st σ := hT _ _ _ _ _ _ _ _ _ agD.rf (fun τ K q => z_ldcw d hw q) k
theorem g_ldcwS (hT : Lft E Yf D T) {i : Nat} {q : String × (Nat × String)} (hq : STR[i]? = some q) (hY : (Yf m).1.cls = q.1) (d : decode (Yf m).2.1 pc = .ok (.ldc_w q.2.1, 3) ∧ pc + 3 = pc') (k : T m pc' lv (.ref (1000 + i) :: st) σ) : T m pc lv st σ := hT _ _ _ _ _ _ _ _ _ agD.rf (fun τ K q => z_ldcwS hq hY d q) k
theorem g_ldiv (hT : Lft E Yf D T) {x y : Int64} (d : decode (Yf m).2.1 pc = .ok (.ldiv, 1) ∧ pc + 1 = pc') (hne : ¬ y = 0) (k : T m pc' lv (.long (x / y) :: st) σ) : T m pc lv (.long y :: .long x :: st) σ := hT _ _ _ _ _ _ _ _ _ agD.rf (fun τ K q => z_ldiv d hne q) k
theorem g_lload (hT : Lft E Yf D T) {i q : Nat} {x : Int64} (d : decode (Yf m).2.1 pc = .ok (.lload i, 2) ∧ pc + 2 = pc') (hq : lv[q]? = some (i, .long x)) (k : T m pc' lv (.long x :: st) σ) : T m pc lv st σ := hT _ _ _ _ _ _ _ _ _ agD.rf (fun τ K q => z_lload d hq q) k
theorem g_lload_n (hT : Lft E Yf D T) {f : Fin 4} {i q : Nat} {x : Int64} (d : decode (Yf m).2.1 pc = .ok (.lload_n f, 1) ∧ pc + 1 = pc') (hi : (f : Nat) = i) (hq : lv[q]? = some (i, .long x)) (k : T m pc' lv (.long x :: st) σ) : T m pc lv st σ := hT _ _ _ _ _ _ _ _ _ agD.rf (fun τ K q => z_lload_n d hi hq q) k
theorem g_lmul (hT : Lft E Yf D T) {x y : Int64} (d : decode (Yf m).2.1 pc = .ok (.lmul, 1) ∧ pc + 1 = pc') (k : T m pc' lv (.long (x * y) :: st) σ) : T m pc lv (.long y :: .long x :: st) σ := hT _ _ _ _ _ _ _ _ _ agD.rf (fun τ K q => z_lmul d q) k
theorem g_lneg (hT : Lft E Yf D T) {x : Int64} (d : decode (Yf m).2.1 pc = .ok (.lneg, 1) ∧ pc + 1 = pc') (k : T m pc' lv (.long (-x) :: st) σ) : T m pc lv (.long x :: st) σ := hT _ _ _ _ _ _ _ _ _ agD.rf (fun τ K q => z_lneg d q) k
theorem g_lookup (hT : Lft E Yf D T) {dflt : Int} {ps : Array (Int × Int)} {len : Nat} {x : Int32} {off : Int} {tgt : Nat} (d : decode (Yf m).2.1 pc = .ok (.lookupswitch dflt ps, len)) (hp : (ps.toList.zip (ps.toList.drop 1)).all (fun (a, next) => a.1 < next.1) = true) (ho : Op.lookupswitch.offset ps.toList dflt x.toInt = off) (ht : (pc : Int) + off = (tgt : Int)) (k : T m tgt lv st σ) : T m pc lv (.int x :: st) σ := hT _ _ _ _ _ _ _ _ _ agD.rf (fun τ K q => z_lookup d hp ho ht q) k
theorem g_lor (hT : Lft E Yf D T) {x y : Int64} (d : decode (Yf m).2.1 pc = .ok (.lor, 1) ∧ pc + 1 = pc') (k : T m pc' lv (.long (x ||| y) :: st) σ) : T m pc lv (.long y :: .long x :: st) σ := hT _ _ _ _ _ _ _ _ _ agD.rf (fun τ K q => z_lor d q) k
theorem g_lrem (hT : Lft E Yf D T) {x y : Int64} (d : decode (Yf m).2.1 pc = .ok (.lrem, 1) ∧ pc + 1 = pc') (hne : ¬ y = 0) (k : T m pc' lv (.long (x - x / y * y) :: st) σ) : T m pc lv (.long y :: .long x :: st) σ := hT _ _ _ _ _ _ _ _ _ agD.rf (fun τ K q => z_lrem d hne q) k
theorem g_lshl (hT : Lft E Yf D T) {x v : Int64} {y : Int32} (d : decode (Yf m).2.1 pc = .ok (.lshl, 1) ∧ pc + 1 = pc') (hv : x <<< (y.toInt64 &&& 63) = v) (k : T m pc' lv (.long v :: st) σ) : T m pc lv (.int y :: .long x :: st) σ := hT _ _ _ _ _ _ _ _ _ agD.rf (fun τ K q => z_lshl d hv q) k
theorem g_lshr (hT : Lft E Yf D T) {x v : Int64} {y : Int32} (d : decode (Yf m).2.1 pc = .ok (.lshr, 1) ∧ pc + 1 = pc') (hv : x >>> (y.toInt64 &&& 63) = v) (k : T m pc' lv (.long v :: st) σ) : T m pc lv (.int y :: .long x :: st) σ := hT _ _ _ _ _ _ _ _ _ agD.rf (fun τ K q => z_lshr d hv q) k
theorem g_lstore (hT : Lft E Yf D T) {i : Nat} {x : Int64} (d : decode (Yf m).2.1 pc = .ok (.lstore i, 2) ∧ pc + 2 = pc') (hn : i + 1 < (Yf m).2.2.1) (hl' : (i, Value.long x) :: lv.filter (fun q => !(q.1 == i) && (!(q.1 == i + 1) && !(q.1 + 1 == i && q.2.category == 2))) = lv') (k : T m pc' lv' st σ) : T m pc lv (.long x :: st) σ := hT _ _ _ _ _ _ _ _ _ agD.rf (fun τ K q => z_lstore d hn hl' q) k
theorem g_lstore_n (hT : Lft E Yf D T) {f : Fin 4} {i : Nat} {x : Int64} (d : decode (Yf m).2.1 pc = .ok (.lstore_n f, 1) ∧ pc + 1 = pc') (hi : (f : Nat) = i) (hn : i + 1 < (Yf m).2.2.1) (hl' : (i, Value.long x) :: lv.filter (fun q => !(q.1 == i) && (!(q.1 == i + 1) && !(q.1 + 1 == i && q.2.category == 2))) = lv') (k : T m pc' lv' st σ) : T m pc lv (.long x :: st) σ := hT _ _ _ _ _ _ _ _ _ agD.rf (fun τ K q => z_lstore_n d hi hn hl' q) k
theorem g_lsub (hT : Lft E Yf D T) {x y : Int64} (d : decode (Yf m).2.1 pc = .ok (.lsub, 1) ∧ pc + 1 = pc') (k : T m pc' lv (.long (x - y) :: st) σ) : T m pc lv (.long y :: .long x :: st) σ := hT _ _ _ _ _ _ _ _ _ agD.rf (fun τ K q => z_lsub d q) k
theorem g_lushr (hT : Lft E Yf D T) {x v : Int64} {y : Int32} (d : decode (Yf m).2.1 pc = .ok (.lushr, 1) ∧ pc + 1 = pc') (hv : (x.toUInt64 >>> (y.toInt64.toUInt64 &&& Int64.toUInt64 63)).toInt64 = v) (k : T m pc' lv (.long v :: st) σ) : T m pc lv (.int y :: .long x :: st) σ := hT _ _ _ _ _ _ _ _ _ agD.rf (fun τ K q => z_lushr d hv q) k
theorem g_lxor (hT : Lft E Yf D T) {x y : Int64} (d : decode (Yf m).2.1 pc = .ok (.lxor, 1) ∧ pc + 1 = pc') (k : T m pc' lv (.long (x ^^^ y) :: st) σ) : T m pc lv (.long y :: .long x :: st) σ := hT _ _ _ _ _ _ _ _ _ agD.rf (fun τ K q => z_lxor d q) k
theorem g_mmax (hT : Lft E Yf D T) {pc pc' idx : Nat} {x y : Int32} (w1 : Cond.methodLink (Yf m).1.cls idx Lib.Math.max.name ∈ TBg) (w2 : Cond.static Lib.Math.max.name ∈ TBg) (w3 : Cond.initialized "java/lang/Math" ∈ TBg) (w4 : Cond.code Lib.Math.max.name Lib.Math.max.code 2 (some .int) ∈ TBg) (hfr : 1 ≤ (Yf m).2.2.2.2.frames) (hlo : 40 ≤ (Yf m).2.2.2.2.locals) (hcat : (st.map fun v => v.category).sum ≤ 8) (d : decode (Yf m).2.1 pc = .ok (.invokestatic idx, 3) ∧ pc + 3 = pc') (k : T m pc' lv (.int (if x < y then y else x) :: st) σ) : T m pc lv (.int y :: .int x :: st) σ := hT _ _ _ _ _ _ _ _ _ agD.rf (fun τ K q => z_mmax w1 w2 w3 w4 hfr hlo hcat d q) k
theorem g_mmin (hT : Lft E Yf D T) {pc pc' idx : Nat} {x y : Int32} (w1 : Cond.methodLink (Yf m).1.cls idx Lib.Math.min.name ∈ TBg) (w2 : Cond.static Lib.Math.min.name ∈ TBg) (w3 : Cond.initialized "java/lang/Math" ∈ TBg) (w4 : Cond.code Lib.Math.min.name Lib.Math.min.code 2 (some .int) ∈ TBg) (hfr : 1 ≤ (Yf m).2.2.2.2.frames) (hlo : 40 ≤ (Yf m).2.2.2.2.locals) (hcat : (st.map fun v => v.category).sum ≤ 8) (d : decode (Yf m).2.1 pc = .ok (.invokestatic idx, 3) ∧ pc + 3 = pc') (k : T m pc' lv (.int (if y < x then y else x) :: st) σ) : T m pc lv (.int y :: .int x :: st) σ := hT _ _ _ _ _ _ _ _ _ agD.rf (fun τ K q => z_mmin w1 w2 w3 w4 hfr hlo hcat d q) k
theorem g_popi (hT : Lft E Yf D T) {x : Int32} (d : decode (Yf m).2.1 pc = .ok (.pop, 1) ∧ pc + 1 = pc') (k : T m pc' lv st σ) : T m pc lv (.int x :: st) σ := hT _ _ _ _ _ _ _ _ _ agD.rf (fun τ K q => z_popi d q) k
theorem g_puti (hT : Lft E Yf D T) {k j idx ci : Nat} {l : List Nat} {ty : FieldType} {v : Int32} (hD : D k = true) (F : xFl (Yf m).1.cls idx ci j ty false) (hk : k < 215) (hd : KD k = (ci, l)) (hc : ci < 100) (hj : l[j]? = some 0) (hw : narrow ty (.int v) = .int v) (hf : fits ty (.int v) = true) (d : decode (Yf m).2.1 pc = .ok (.putfield idx, 3) ∧ pc + 3 = pc') (kk : T m pc' lv st (zI σ k j v)) : T m pc lv (.int v :: .ref k :: st) σ := hT _ _ _ _ _ _ _ _ _ (agI hD) (fun τ K q => z_puti F hk hd hc hj hw hf d (by rw [mixI hD]; exact q)) kk
theorem g_putj (hT : Lft E Yf D T) {k j idx ci : Nat} {l : List Nat} {v : Int64} (hD : D k = true) (F : xFl (Yf m).1.cls idx ci j .long false) (hk : k < 215) (hd : KD k = (ci, l)) (hc : ci < 100) (hj : l[j]? = some 1) (d : decode (Yf m).2.1 pc = .ok (.putfield idx, 3) ∧ pc + 3 = pc') (kk : T m pc' lv st (zJ σ k j v)) : T m pc lv (.long v :: .ref k :: st) σ := hT _ _ _ _ _ _ _ _ _ (agJ hD) (fun τ K q => z_putj F hk hd hc hj d (by rw [mixJ hD]; exact q)) kk
theorem g_rald (hT : Lft E Yf D T) {x : Int32} (hx : vp_in x 4) (d : decode (Yf m).2.1 pc = .ok (.iaload, 1) ∧ pc + 1 = pc') (k : T m pc' lv (.int (RNK.getD x.toNatClampNeg 0) :: st) σ) : T m pc lv (.int x :: .ref 3001 :: st) σ := hT _ _ _ _ _ _ _ _ _ agD.rf (fun τ K q => z_rald hx d q) k
theorem g_sald (hT : Lft E Yf D T) {i : Nat} {x : Int32} (hi : i < 21) (hx : vp_in x (SLN.getD i 0)) (d : decode (Yf m).2.1 pc = .ok (.baload, 1) ∧ pc + 1 = pc') (k : T m pc' lv (.int ((SBY.getD i []).getD x.toNatClampNeg 0) :: st) σ) : T m pc lv (.int x :: .ref (2000 + i) :: st) σ := hT _ _ _ _ _ _ _ _ _ agD.rf (fun τ K q => z_sald hi hx d q) k
theorem g_sgetc (hT : Lft E Yf D T) {idx i : Nat} (hi : i < 21) (hl : Cond.fieldLink (Yf m).1.cls idx "java/lang/String" "coder" "B" ∈ TBg) (d : decode (Yf m).2.1 pc = .ok (.getfield idx, 3) ∧ pc + 3 = pc') (k : T m pc' lv (.int 0 :: st) σ) : T m pc lv (.ref (1000 + i) :: st) σ := hT _ _ _ _ _ _ _ _ _ agD.rf (fun τ K q => z_sgetc hi hl d q) k
theorem g_sgetv (hT : Lft E Yf D T) {idx i : Nat} (hi : i < 21) (hl : Cond.fieldLink (Yf m).1.cls idx "java/lang/String" "value" "[B" ∈ TBg) (d : decode (Yf m).2.1 pc = .ok (.getfield idx, 3) ∧ pc + 3 = pc') (k : T m pc' lv (.ref (2000 + i) :: st) σ) : T m pc lv (.ref (1000 + i) :: st) σ := hT _ _ _ _ _ _ _ _ _ agD.rf (fun τ K q => z_sgetv hi hl d q) k
theorem g_sipush (hT : Lft E Yf D T) {i : Int} {v : Int32} (d : decode (Yf m).2.1 pc = .ok (.sipush i, 3) ∧ pc + 3 = pc') (hv : (Int16.ofInt i).toInt32 = v) (k : T m pc' lv (.int v :: st) σ) : T m pc lv st σ := hT _ _ _ _ _ _ _ _ _ agD.rf (fun τ K q => z_sipush d hv q) k
theorem g_slen (hT : Lft E Yf D T) {i : Nat} {v : Int32} (hi : i < 21) (hv : Int32.ofNat (SLN.getD i 0) = v) (d : decode (Yf m).2.1 pc = .ok (.arraylength, 1) ∧ pc + 1 = pc') (k : T m pc' lv (.int v :: st) σ) : T m pc lv (.ref (2000 + i) :: st) σ := hT _ _ _ _ _ _ _ _ _ agD.rf (fun τ K q => z_slen hi hv d q) k
theorem g_tableIn (hT : Lft E Yf D T) {dflt lo hi : Int} {offs : Array Int} {len : Nat} {x : Int32} {off : Int} {tgt : Nat} (d : decode (Yf m).2.1 pc = .ok (.tableswitch dflt lo hi offs, len)) (h1 : ¬ x.toInt < lo) (h2 : ¬ hi < x.toInt) (ho : offs[(x.toInt - lo).toNat]? = some off) (ht : (pc : Int) + off = (tgt : Int)) (k : T m tgt lv st σ) : T m pc lv (.int x :: st) σ := hT _ _ _ _ _ _ _ _ _ agD.rf (fun τ K q => z_tableIn d h1 h2 ho ht q) k
theorem g_tableOut (hT : Lft E Yf D T) {dflt lo hi : Int} {offs : Array Int} {len : Nat} {x : Int32} {tgt : Nat} (d : decode (Yf m).2.1 pc = .ok (.tableswitch dflt lo hi offs, len)) (h : x.toInt < lo ∨ hi < x.toInt) (ht : (pc : Int) + dflt = (tgt : Int)) (k : T m tgt lv st σ) : T m pc lv (.int x :: st) σ := hT _ _ _ _ _ _ _ _ _ agD.rf (fun τ K q => z_tableOut d h ht q) k
theorem g_zald (hT : Lft E Yf D T) {k z : Nat} {i : Int32} (hD : D k = true) (hk : k < 215) (hd : KD k = (102, [z])) (hi : vp_in i z) (d : decode (Yf m).2.1 pc = .ok (.baload, 1) ∧ pc + 1 = pc') (kk : T m pc' lv (.int (σ.1 k i.toNatClampNeg) :: st) σ) : T m pc lv (.int i :: .ref k :: st) σ := hT _ _ _ _ _ _ _ _ _ agD.rf (fun τ K q => z_zald hk hd hi d (by rw [mix1 hD]; exact q)) kk
theorem g_zast (hT : Lft E Yf D T) {k z : Nat} {i : Int32} {x : Int32} (hD : D k = true) (hk : k < 215) (hd : KD k = (102, [z])) (hi : vp_in i z) (d : decode (Yf m).2.1 pc = .ok (.bastore, 1) ∧ pc + 1 = pc') (kk : T m pc' lv st (zI σ k i.toNatClampNeg (vp_nar .boolean x))) : T m pc lv (.int x :: .int i :: .ref k :: st) σ := hT _ _ _ _ _ _ _ _ _ (agI hD) (fun τ K q => z_zast hk hd hi d (by rw [mixI hD]; exact q)) kk
end PZ
end
