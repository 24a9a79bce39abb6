/-! ===== a contract may promise less ===== -/
theorem Cx.mono {E : xV} {Y : xY} {av : List Value} {n : Nat} {σ : xS} {K K' : xK} (h : Cx E Y av n σ K) (hk : ∀ v n' σ', K v n' σ' → K' v n' σ') : Cx E Y av n σ K' := by
  intro a
  refine MetFree.mono (h a) (fun _ _ q => q) (fun _ _ _ _ _ q => q) ?_
  intro a1 st o t _ ⟨⟨v, n', σ', a', h1, h2, h3, h4, h5, h6⟩, hL⟩
  exact ⟨⟨v, n', σ', a', h1, h2, h3, hk _ _ _ h4, h5, h6⟩, hL⟩
/-! ===== the machine's own copying of rows; the greater of two ===== -/
section XY
variable {E : xV} {Y : xY} {pc n cs ss : Nat} {lv : List (Nat × Value)} {st : List Value} {σ : xS} {K : xQQ}
theorem xst_cat {a : Nat → Nat} {st : List Value} : ((st.map (xrel a)).map fun v => v.category).sum = (st.map fun v => v.category).sum := by
  rw [List.map_map]
  have : ((fun v => v.category) ∘ xrel a : Value → Nat) = fun v => v.category := funext fun v => xrel_cat
  rw [this]
/-- row k of ints, of longs becomes f -/
def sIr (σ : xS) (k : Nat) (f : Nat → Int32) : xS := (xup σ.1 k f, σ.2)
def sJr (σ : xS) (k : Nat) (f : Nat → Int64) : xS := (σ.1, (xup σ.2.1 k f, σ.2.2))
theorem sIr_off {σ : xS} {k : Nat} {f : Nat → Int32} (i : Nat) (h : i ≠ k) : (sIr σ k f).1 i = σ.1 i ∧ (sIr σ k f).2.1 i = σ.2.1 i ∧ (sIr σ k f).2.2 i = σ.2.2 i := ⟨xup_ne h, rfl, rfl⟩
theorem sJr_off {σ : xS} {k : Nat} {f : Nat → Int64} (i : Nat) (h : i ≠ k) : (sJr σ k f).1 i = σ.1 i ∧ (sJr σ k f).2.1 i = σ.2.1 i ∧ (sJr σ k f).2.2 i = σ.2.2 i := ⟨rfl, xup_ne h, rfl⟩
theorem x_copyi {idx k0 k1 z0 z1 : Nat} {sp dp v : Int32} (d : decode Y.2.1 pc = .ok (.invokestatic idx, 3)) (w1 : Cond.methodLink Y.1.cls idx arraycopyName ∈ TBg) (w2 : Cond.native arraycopyName ∈ TBg) (w3 : Cond.static arraycopyName ∈ TBg) (w4 : Cond.initialized "java/lang/System" ∈ TBg) (hk0 : k0 < n) (hk1 : k1 < n) (hd0 : KD k0 = (100, [z0])) (hd1 : KD k1 = (100, [z1])) (h1 : ¬ sp < 0) (h2 : ¬ dp < 0) (h3 : ¬ v < 0) (h4 : sp.toNatClampNeg + v.toNatClampNeg ≤ z0) (h5 : dp.toNatClampNeg + v.toNatClampNeg ≤ z1) (hfr : 1 ≤ Y.2.2.2.2.frames) (hlo : 40 ≤ Y.2.2.2.2.locals) (hcat : (st.map fun v => v.category).sum ≤ 8)
    (kk : Wx E Y (pc + 3) lv st n cs ss (sIr σ k1 (va_cpy (σ.1 k0) (σ.1 k1) sp.toNatClampNeg dp.toNatClampNeg v.toNatClampNeg)) K) : Wx E Y pc lv (.int v :: .int dp :: .ref k1 :: .int sp :: .ref k0 :: st) n cs ss σ K := by
  intro p e R s m args below meth c H locs ls a0 n0 a hC hn hg hH hS hl
  have hts := hC.2.2.2.2.2.1
  obtain ⟨hR1, hR2, hR3, hR4, -⟩ := hC.2.2.2.2.2.2.2.2.2.2
  refine va_copyi (D := E.2.1.1) (cl := cls) (tys := xT E.2.1) (ty := .int) hC.1 hC.2.1 (hC.2.2.2.1.trans hl.1.symm) hC.2.2.2.2.1 (hts _ w1) (hts _ w2) (hts _ w3) (hts _ w4) hC.2.2.2.2.2.2.2.2.1.1 hH.2.2.2.2 hH.D hS k0 k1 0 0 (xc_at hk0 (xc_int hd0)) (xc_at hk1 (xc_int hd1)) rfl rfl rfl h1 h2 h3 h4 h5 (fun _ _ => rfl) (Nat.le_trans hfr hR1) ?_ d (fun H1 locs1 hP1 _ hS1 => ?_)
  · rw [xst_cat]
    refine Nat.le_trans ?_ (Nat.le_trans hlo hR2)
    have : nativeFrameWords "java/lang/System" "arraycopy" 5 = 7 := by decide
    rw [this]
    omega
  · have hx : (a k1, (.inl (E.2.1.2.1, (z1, .inl (va_cpy (σ.1 k0) (σ.1 k1) sp.toNatClampNeg dp.toNatClampNeg v.toNatClampNeg))) : va_E)) = xc E.2.1 a (sIr σ k1 (va_cpy (σ.1 k0) (σ.1 k1) sp.toNatClampNeg dp.toNatClampNeg v.toNatClampNeg)) k1 := by rw [xc_int hd1]; simp [sIr, xup]
    rw [hx, xW_set hk1 sIr_off] at hP1
    exact kk p e R s m args below meth c H1 locs1 ls a0 n0 a hC hn hg ⟨hH.1, hH.2.1, hH.2.2.1, hH.2.2.2.1, hP1⟩ hS1 hl
theorem x_copyl {idx k0 k1 z0 z1 : Nat} {sp dp v : Int32} (d : decode Y.2.1 pc = .ok (.invokestatic idx, 3)) (w1 : Cond.methodLink Y.1.cls idx arraycopyName ∈ TBg) (w2 : Cond.native arraycopyName ∈ TBg) (w3 : Cond.static arraycopyName ∈ TBg) (w4 : Cond.initialized "java/lang/System" ∈ TBg) (hk0 : k0 < n) (hk1 : k1 < n) (hd0 : KD k0 = (101, [z0])) (hd1 : KD k1 = (101, [z1])) (h1 : ¬ sp < 0) (h2 : ¬ dp < 0) (h3 : ¬ v < 0) (h4 : sp.toNatClampNeg + v.toNatClampNeg ≤ z0) (h5 : dp.toNatClampNeg + v.toNatClampNeg ≤ z1) (hfr : 1 ≤ Y.2.2.2.2.frames) (hlo : 40 ≤ Y.2.2.2.2.locals) (hcat : (st.map fun v => v.category).sum ≤ 8)
    (kk : Wx E Y (pc + 3) lv st n cs ss (sJr σ k1 (va_cpy (σ.2.1 k0) (σ.2.1 k1) sp.toNatClampNeg dp.toNatClampNeg v.toNatClampNeg)) K) : Wx E Y pc lv (.int v :: .int dp :: .ref k1 :: .int sp :: .ref k0 :: st) n cs ss σ K := by
  intro p e R s m args below meth c H locs ls a0 n0 a hC hn hg hH hS hl
  have hts := hC.2.2.2.2.2.1
  obtain ⟨hR1, hR2, hR3, hR4, -⟩ := hC.2.2.2.2.2.2.2.2.2.2
  refine va_copyl (D := E.2.1.1) (cl := cls) (tys := xT E.2.1) (ty := .long) hC.1 hC.2.1 (hC.2.2.2.1.trans hl.1.symm) hC.2.2.2.2.1 (hts _ w1) (hts _ w2) (hts _ w3) (hts _ w4) hC.2.2.2.2.2.2.2.2.1.1 hH.2.2.2.2 hH.D hS k0 k1 1 1 (xc_at hk0 (xc_long hd0)) (xc_at hk1 (xc_long hd1)) rfl rfl rfl h1 h2 h3 h4 h5 (fun _ _ => rfl) (Nat.le_trans hfr hR1) ?_ d (fun H1 locs1 hP1 _ hS1 => ?_)
  · rw [xst_cat]
    refine Nat.le_trans ?_ (Nat.le_trans hlo hR2)
    have : nativeFrameWords "java/lang/System" "arraycopy" 5 = 7 := by decide
    rw [this]
    omega
  · have hx : (a k1, (.inl (E.2.1.2.2.1, (z1, .inr (.inl (va_cpy (σ.2.1 k0) (σ.2.1 k1) sp.toNatClampNeg dp.toNatClampNeg v.toNatClampNeg)))) : va_E)) = xc E.2.1 a (sJr σ k1 (va_cpy (σ.2.1 k0) (σ.2.1 k1) sp.toNatClampNeg dp.toNatClampNeg v.toNatClampNeg)) k1 := by rw [xc_long hd1]; simp [sJr, xup]
    rw [hx, xW_set hk1 sJr_off] at hP1
    exact kk p e R s m args below meth c H1 locs1 ls a0 n0 a hC hn hg ⟨hH.1, hH.2.1, hH.2.2.1, hH.2.2.2.1, hP1⟩ hS1 hl
theorem x_max {idx : Nat} {x y : Int32} (d : decode Y.2.1 pc = .ok (.invokestatic idx, 3)) (w1 : Cond.methodLink Y.1.cls idx Lib.Math.max.name ∈ TBg) (w2 : Cond.static Lib.Math.max.name ∈ TBg) (w3 : Cond.initialized "java/lang/Math" ∈ TBg) (w4 : Cond.code Lib.Math.max.name Lib.Math.max.code 2 (some .int) ∈ TBg) (hfr : 1 ≤ Y.2.2.2.2.frames) (hlo : 40 ≤ Y.2.2.2.2.locals) (hc : cs ≤ Y.2.2.2.2.cells) (hs : ss ≤ Y.2.2.2.2.slots) (hcat : (st.map fun v => v.category).sum ≤ 8)
    (kk : Wx E Y (pc + 3) lv (.int (if x < y then y else x) :: st) n cs ss σ K) : Wx E Y pc lv (.int y :: .int x :: st) n cs ss σ K := by
  intro p e R s m args below meth c H locs ls a0 n0 a hC hn hg hH hS hl
  have hts := hC.2.2.2.2.2.1
  obtain ⟨hR1, hR2, hR3, hR4, -⟩ := hC.2.2.2.2.2.2.2.2.2.2
  refine va_mmax hC.1 hC.2.1 (hC.2.2.2.1.trans hl.1.symm) hC.2.2.2.2.1 (hts _ w1) (hts _ w2) (hts _ w3) (hts _ w4) (Nat.le_trans hfr hR1) ?_ (Nat.le_trans hc hR3) (Nat.le_trans hs hR4) d (kk p e R s m args below meth c H locs ls a0 n0 a hC hn hg hH hS hl)
  rw [xst_cat]
  exact Nat.le_trans (by omega) (Nat.le_trans hlo hR2)
end XY
section XZ
variable {E : xV} {Y : xY} {pc n cs ss : Nat} {lv : List (Nat × Value)} {st : List Value} {σ : xS} {K : xQQ}
theorem xc_rows {G : xG} {a : Nat → Nat} {σ : xS} {k z : Nat} (hd : KD k = (103, [z])) : xc G a σ k = (a k, .inl (G.2.2.2.2, (z, .inr (.inr (.inr (.inr fun i => xro a (σ.2.2 k i))))))) := by
  simp [xc, xE, hd]
theorem x_aald {k z i' : Nat} {i : Int32} (hk : k < n) (hd : KD k = (103, [z])) (hi : vp_in i z) (hr : σ.2.2 k i.toNatClampNeg = i' + 1) (d : decode Y.2.1 pc = .ok (.aaload, 1)) (kk : Wx E Y (pc + 1) lv (.ref i' :: st) n cs ss σ K) : Wx E Y pc lv (.int i :: .ref k :: st) n cs ss σ K := by
  intro p e R s m args below meth c H locs ls a0 n0 a hC hn hg hH hS hl
  have ha := hH.2.2.2.2 k _ (xc_at hk (xc_rows hd))
  have ha' : H[a k]? = some (arrV E.2.1.2.2.2.2 z (fun j => va_rf (xro a (σ.2.2 k j)))) := by
    have h1 : H[a k]? = some (vp_cell _ _) := ha
    rw [h1, vp_cell_q]
  have hlt : i.toNatClampNeg < z := Nat.not_le.mp fun q => hi (Or.inr q)
  refine W.aald (v := .ref (a i')) (ty := .array .long) hC.1 hC.2.1 ha' ((hC.2.2.2.2.2.2.2.2.1.1.2 3 _ rfl).1 z (fun j => va_rf (xro a (σ.2.2 k j)))) rfl (fun q => by cases q) (by show ¬ (i < 0 ∨ (arrV _ _ _).slots.size ≤ _); rw [arrV_size]; exact hi) ?_ rfl rfl d (kk p e R s m args below meth c H locs ls a0 n0 a hC hn hg hH hS hl)
  show (arrV _ _ _).slots[_]? = _
  rw [arrV_read _ _ hlt, hr]
  rfl
end XZ
