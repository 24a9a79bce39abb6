/-! ===== PRODUCTS, 1: one theorem an instruction ===== -/
/-- all objects on the stack are of this side -/
noncomputable def dref (D : Nat → Bool) (a : AV) : Bool := match a with
  | .inr (.inr (.inr (.inr (.inl q)))) => Nat.ble 215 q || D q
  | .inr (.inr (.inr (.inr (.inr (b, n))))) => (List.range n).all fun i => Nat.ble 215 (b + i) || D (b + i)
  | _ => true
noncomputable def okD (D : Nat → Bool) (st : List AV) : Bool := st.all (dref D)
section P5
variable {D : Nat → Bool} {k : Nat} {a b c d : AV} {st : List AV}
theorem dref_r (h : dref D (.r k) = true) (hk : k < 215) : D k = true := by
  have h : (Nat.ble 215 k || D k) = true := h
  rw [Bool.or_eq_true] at h
  rcases h with h | h
  · have := Nat.le_of_ble_eq_true h; omega
  · exact h
theorem dref_rr {q n : Nat} (h : dref D (.rr q n) = true) (h1 : q ≤ k) (h2 : k < q + n) (hk : k < 215) : D k = true := by
  have h : ((List.range n).all fun i => Nat.ble 215 (q + i) || D (q + i)) = true := h
  have := List.all_eq_true.mp h (k - q) (List.mem_range.mpr (by omega))
  rw [show q + (k - q) = k by omega] at this
  exact dref_r this hk
theorem okD_c (h : okD D (a :: st) = true) : dref D a = true ∧ okD D st = true := by
  unfold okD at h ⊢
  rw [List.all_cons, Bool.and_eq_true] at h
  exact h
theorem okD_1 (h : okD D (.r k :: st) = true) (hk : k < 215) : D k = true := dref_r (okD_c h).1 hk
theorem okD_2 (h : okD D (a :: .r k :: st) = true) (hk : k < 215) : D k = true := okD_1 (okD_c h).2 hk
theorem okD_3 (h : okD D (a :: b :: .r k :: st) = true) (hk : k < 215) : D k = true := okD_2 (okD_c h).2 hk
theorem okD_5 (h : okD D (a :: b :: c :: d :: .r k :: st) = true) (hk : k < 215) : D k = true := okD_3 (okD_c (okD_c h).2).2 hk
theorem okD_2r {q n : Nat} (h : okD D (a :: .rr q n :: st) = true) (h1 : q ≤ k) (h2 : k < q + n) (hk : k < 215) : D k = true := dref_rr (okD_c (okD_c h).2).1 h1 h2 hk
theorem okD_3r {q n : Nat} (h : okD D (a :: b :: .rr q n :: st) = true) (h1 : q ≤ k) (h2 : k < q + n) (hk : k < 215) : D k = true := okD_2r (okD_c h).2 h1 h2 hk
end P5
noncomputable def Tk (Wp : Nat → Nat → Prop) (J : Jt) (T : Tt) (m : Nat) (ρ : List Int) (σ : zS) (L : List Su) : Prop := ∀ u ∈ L, ∀ (ρ' : List Int) (σ' : zS) (l' : List (Nat × Value)) (v' : List Value), Pre ρ ρ' → Ok J u.1 ρ' σ' → Fr Wp σ σ' → Rl ρ' u.2.2.1 l' → Rs ρ' u.2.2.2 v' → T m u.2.1 l' v' σ'
section P6
variable {E : xV} {Y : Nat → xY} {D : Nat → Bool} {G : Gl} {P : Pl} {Ws : Sy → Nat → AV → Bool} {Wa : Nat → Bool} {Wp : Nat → Nat → Prop} {J : Jt} {m pc len : Nat} {T : Tt} {s : Sy} {ρ : List Int} {σ : zS} {lv : List (Nat × AV)} {st : List AV} {l : List (Nat × Value)} {v : List Value}
theorem Tk.one {s' : Sy} {n : Nat} {lv' : List (Nat × AV)} {st' : List AV} (k : Tk Wp J T m ρ σ [(s', (n, (lv', st')))]) {ρ' : List Int} {σ' : zS} {l' : List (Nat × Value)} {v' : List Value} (h1 : Pre ρ ρ') (h2 : Ok J s' ρ' σ') (h3 : Fr Wp σ σ') (h4 : Rl ρ' lv' l') (h5 : Rs ρ' st' v') : T m n l' v' σ' := k _ (List.mem_cons_self ..) ρ' σ' l' v' h1 h2 h3 h4 h5
theorem tbr_ok {c : Cm} {a b : AV} {t e : Nat} {x y : Int} (h : Ok J s ρ σ) (ha : ev ρ a = some x) (hb : ev ρ b = some y) (hx : inD x (dom s a)) (hy : inD y (dom s b)) (hl : Rl ρ lv l) (hs : Rs ρ st v) (k : Tk Wp J T m ρ σ (br s c a b t e lv st)) : (c.ok x y → T m t l v σ) ∧ (¬ c.ok x y → T m e l v σ) := by
  refine ⟨fun hc => ?_, fun hc => ?_⟩
  · obtain ⟨s', h1, h2⟩ := Sy.cut_ok h ha hb hx hy hc
    refine k (s', (t, (lv, st))) ?_ ρ σ l v Pre.rf h2 Fr.rf hl hs
    unfold br
    rw [h1]
    exact List.mem_append_left _ (List.mem_cons_self ..)
  · obtain ⟨s', h1, h2⟩ := Sy.cut_ok h ha hb hx hy (Cm.neg_ok hc)
    refine k (s', (e, (lv, st))) ?_ ρ σ l v Pre.rf h2 Fr.rf hl hs
    unfold br
    rw [h1]
    exact List.mem_append_right _ (List.mem_cons_self ..)
end P6
section P7
variable {E : xV} {Y : Nat → xY} {D : Nat → Bool} {G : Gl} {P : Pl} {Ws : Sy → Nat → AV → Bool} {Wa : Nat → Bool} {Wp : Nat → Nat → Prop} {J : Jt} {m pc len : Nat} {T : Tt}
noncomputable def Tt1 (E : xV) (Y : Nat → xY) (D : Nat → Bool) (G : Gl) (P : Pl) (Ws : Sy → Nat → AV → Bool) (Wa : Nat → Bool) (Wp : Nat → Nat → Prop) (J : Jt) (m pc len : Nat) (T : Tt) (ix : Ix) : Prop := ∀ (s : Sy) (ρ : List Int) (σ : zS) (lv : List (Nat × AV)) (st : List AV) (l : List (Nat × Value)) (v : List Value) (L : List Su), Lft E Y D T → okD D st = true → GOk Y G → POk G P J → (∀ k p j, ev ρ p = some ((j : Nat) : Int) → Ws s k p = true → Wp k j) → (∀ k j, Wa k = true → Wp k j) → decode (Y m).2.1 pc = .ok (enc ix, len) → ix.fits (Y m).2.2.1 = true → (ix.len = 0 ∨ ix.len = len) → Ok J s ρ σ → Rl ρ lv l → Rs ρ st v → step1 G P Ws Wa m ix pc (pc + len) s lv st = some L → Tk Wp J T m ρ σ L → T m pc l v σ
theorem pt_ic {n : Int} : Tt1 E Y D G P Ws Wa Wp J m pc len T (.iconst n) := by
  intro s ρ σ lv st l v L hT hD hG hJ hW1 hW2 d hf hln h hl hs hst k
  cases lenOf (a := 1) hln (by decide)
  simp only [step1, disp, Option.some.injEq] at hst
  subst hst
  exact g_iconst hT ⟨d, rfl⟩ rfl (k.one Pre.rf h Fr.rf hl ⟨⟨_, rfl, (ofInt32 (by have := and_ile hf; omega)).symm⟩, hs⟩)
theorem pt_bp {n : Int} : Tt1 E Y D G P Ws Wa Wp J m pc len T (.bipush n) := by
  intro s ρ σ lv st l v L hT hD hG hJ hW1 hW2 d hf hln h hl hs hst k
  cases lenOf (a := 2) hln (by decide)
  simp only [step1, disp, Option.some.injEq] at hst
  subst hst
  exact g_bipush hT ⟨d, rfl⟩ rfl (k.one Pre.rf h Fr.rf hl ⟨⟨_, rfl, (ofInt8 (by have := and_ile hf; omega)).symm⟩, hs⟩)
theorem pt_sp {n : Int} : Tt1 E Y D G P Ws Wa Wp J m pc len T (.sipush n) := by
  intro s ρ σ lv st l v L hT hD hG hJ hW1 hW2 d hf hln h hl hs hst k
  cases lenOf (a := 3) hln (by decide)
  simp only [step1, disp, Option.some.injEq] at hst
  subst hst
  exact g_sipush hT ⟨d, rfl⟩ rfl (k.one Pre.rf h Fr.rf hl ⟨⟨_, rfl, (ofInt16 (by have := and_ile hf; omega)).symm⟩, hs⟩)
theorem pt_ldc {x : Nat} : Tt1 E Y D G P Ws Wa Wp J m pc len T (.ldc x) := by
  intro s ρ σ lv st l v L hT hD hG hJ hW1 hW2 d hf hln h hl hs hst k
  cases lenOf (a := 2) hln (by decide)
  simp only [step1, disp, s1_ldc] at hst
  split at hst
  · rename_i n hc
    cases Option.some.inj hst
    obtain ⟨w, h1, h2⟩ := hG.cst m x n (Nat.le_of_ble_eq_true hf) hc
    exact g_ldc hT ⟨d, rfl⟩ h2 (k.one Pre.rf h Fr.rf hl ⟨⟨w, rfl, h1.symm⟩, hs⟩)
  · split at hst
    · rename_i n hl2
      cases hb : Nat.ble 10 n with
      | false => rw [hb] at hst; cases hst
      | true =>
        rw [hb] at hst
        cases Option.some.inj hst
        obtain ⟨q, h1, h2, h3⟩ := hG.str m x n (Nat.le_of_ble_eq_true hf) hl2 (Nat.le_of_ble_eq_true hb)
        subst h3
        exact g_ldcS hT h1 h2 ⟨d, rfl⟩ (k.one Pre.rf h Fr.rf hl ⟨rfl, hs⟩)
    · cases hst
theorem pt_ldcw {x : Nat} : Tt1 E Y D G P Ws Wa Wp J m pc len T (.ldc_w x) := by
  intro s ρ σ lv st l v L hT hD hG hJ hW1 hW2 d hf hln h hl hs hst k
  cases lenOf (a := 3) hln (by decide)
  simp only [step1, disp, s1_ldc_w] at hst
  split at hst
  · rename_i n hc
    cases Option.some.inj hst
    obtain ⟨w, h1, h2⟩ := hG.cst m x n (Nat.le_of_ble_eq_true hf) hc
    exact g_ldcw hT ⟨d, rfl⟩ h2 (k.one Pre.rf h Fr.rf hl ⟨⟨w, rfl, h1.symm⟩, hs⟩)
  · split at hst
    · rename_i n hl2
      cases hb : Nat.ble 10 n with
      | false => rw [hb] at hst; cases hst
      | true =>
        rw [hb] at hst
        cases Option.some.inj hst
        obtain ⟨q, h1, h2, h3⟩ := hG.str m x n (Nat.le_of_ble_eq_true hf) hl2 (Nat.le_of_ble_eq_true hb)
        subst h3
        exact g_ldcwS hT h1 h2 ⟨d, rfl⟩ (k.one Pre.rf h Fr.rf hl ⟨rfl, hs⟩)
    · cases hst
theorem pt_lc {n : Fin 2} : Tt1 E Y D G P Ws Wa Wp J m pc len T (.lconst n) := by
  intro s ρ σ lv st l v L hT hD hG hJ hW1 hW2 d hf hln h hl hs hst k
  cases lenOf (a := 1) hln (by decide)
  simp only [step1, disp, Option.some.injEq] at hst
  subst hst
  exact g_lconst hT ⟨d, rfl⟩ rfl (k.one Pre.rf h Fr.rf hl ⟨⟨_, rfl, lc_ok n⟩, hs⟩)
theorem pt_ldc2 {x : Nat} : Tt1 E Y D G P Ws Wa Wp J m pc len T (.ldc2_w x) := by
  intro s ρ σ lv st l v L hT hD hG hJ hW1 hW2 d hf hln h hl hs hst k
  cases lenOf (a := 3) hln (by decide)
  simp only [step1, disp, s1_ldc2_w] at hst
  split at hst
  · rename_i n hc
    cases Option.some.inj hst
    obtain ⟨w, h1, h2⟩ := hG.cstl m x n (Nat.le_of_ble_eq_true hf) hc
    exact g_ldc2 hT ⟨d, rfl⟩ h2 (k.one Pre.rf h Fr.rf hl ⟨⟨w, rfl, h1.symm⟩, hs⟩)
  · cases hst
theorem pt_iln {i : Fin 4} : Tt1 E Y D G P Ws Wa Wp J m pc len T (.iload_n i) := by
  intro s ρ σ lv st l v L hT hD hG hJ hW1 hW2 d hf hln h hl hs hst k
  cases lenOf (a := 1) hln (by decide)
  simp only [step1, disp, s1_iload_n] at hst
  split at hst
  · rename_i a hc
    cases ha : a.isI with
    | false => rw [ha] at hst; cases hst
    | true =>
      rw [ha] at hst
      cases Option.some.inj hst
      obtain ⟨q, w, h1, h2⟩ := lget_ok hl hc
      obtain ⟨y, rfl, h3⟩ := h2.int ha
      exact g_iload_n hT (q := q) ⟨d, rfl⟩ rfl h1 (k.one Pre.rf h Fr.rf hl ⟨Rv.of_int (pl_I ha) (pl_ok h ha h3), hs⟩)
  · cases hst
theorem pt_il {i : Nat} : Tt1 E Y D G P Ws Wa Wp J m pc len T (.iload i) := by
  intro s ρ σ lv st l v L hT hD hG hJ hW1 hW2 d hf hln h hl hs hst k
  cases lenOf (a := 2) hln (by decide)
  simp only [step1, disp, s1_iload] at hst
  split at hst
  · rename_i a hc
    cases ha : a.isI with
    | false => rw [ha] at hst; cases hst
    | true =>
      rw [ha] at hst
      cases Option.some.inj hst
      obtain ⟨q, w, h1, h2⟩ := lget_ok hl hc
      obtain ⟨y, rfl, h3⟩ := h2.int ha
      exact g_iload hT (q := q) ⟨d, rfl⟩ h1 (k.one Pre.rf h Fr.rf hl ⟨Rv.of_int (pl_I ha) (pl_ok h ha h3), hs⟩)
  · cases hst
theorem pt_lln {i : Fin 4} : Tt1 E Y D G P Ws Wa Wp J m pc len T (.lload_n i) := by
  intro s ρ σ lv st l v L hT hD hG hJ hW1 hW2 d hf hln h hl hs hst k
  cases lenOf (a := 1) hln (by decide)
  simp only [step1, disp, s1_lload_n] at hst
  split at hst
  · rename_i a hc
    cases ha : a.isL with
    | false => rw [ha] at hst; cases hst
    | true =>
      rw [ha] at hst
      cases Option.some.inj hst
      obtain ⟨q, w, h1, h2⟩ := lget_ok hl hc
      obtain ⟨y, rfl, h3⟩ := h2.long ha
      exact g_lload_n hT (q := q) ⟨d, rfl⟩ rfl h1 (k.one Pre.rf h Fr.rf hl ⟨h2, hs⟩)
  · cases hst
theorem pt_ll {i : Nat} : Tt1 E Y D G P Ws Wa Wp J m pc len T (.lload i) := by
  intro s ρ σ lv st l v L hT hD hG hJ hW1 hW2 d hf hln h hl hs hst k
  cases lenOf (a := 2) hln (by decide)
  simp only [step1, disp, s1_lload] at hst
  split at hst
  · rename_i a hc
    cases ha : a.isL with
    | false => rw [ha] at hst; cases hst
    | true =>
      rw [ha] at hst
      cases Option.some.inj hst
      obtain ⟨q, w, h1, h2⟩ := lget_ok hl hc
      obtain ⟨y, rfl, h3⟩ := h2.long ha
      exact g_lload hT (q := q) ⟨d, rfl⟩ h1 (k.one Pre.rf h Fr.rf hl ⟨h2, hs⟩)
  · cases hst
theorem pt_aln {i : Fin 4} : Tt1 E Y D G P Ws Wa Wp J m pc len T (.aload_n i) := by
  intro s ρ σ lv st l v L hT hD hG hJ hW1 hW2 d hf hln h hl hs hst k
  cases lenOf (a := 1) hln (by decide)
  simp only [step1, disp, s1_aload_n] at hst
  split at hst
  · rename_i q0 hc
    cases Option.some.inj hst
    obtain ⟨q, w, h1, h2⟩ := lget_ok hl hc
    cases h2
    exact g_aload_n hT (q := q) ⟨d, rfl⟩ rfl h1 (k.one Pre.rf h Fr.rf hl ⟨rfl, hs⟩)
  · rename_i b n hc
    cases Option.some.inj hst
    obtain ⟨q, w, h1, h2⟩ := lget_ok hl hc
    obtain ⟨x, rfl, h3⟩ := h2
    exact g_aload_n hT (q := q) ⟨d, rfl⟩ rfl h1 (k.one Pre.rf h Fr.rf hl ⟨⟨x, rfl, h3⟩, hs⟩)
  · cases hst
theorem pt_al {i : Nat} : Tt1 E Y D G P Ws Wa Wp J m pc len T (.aload i) := by
  intro s ρ σ lv st l v L hT hD hG hJ hW1 hW2 d hf hln h hl hs hst k
  cases lenOf (a := 2) hln (by decide)
  simp only [step1, disp, s1_aload] at hst
  split at hst
  · rename_i q0 hc
    cases Option.some.inj hst
    obtain ⟨q, w, h1, h2⟩ := lget_ok hl hc
    cases h2
    exact g_aload hT (q := q) ⟨d, rfl⟩ h1 (k.one Pre.rf h Fr.rf hl ⟨rfl, hs⟩)
  · rename_i b n hc
    cases Option.some.inj hst
    obtain ⟨q, w, h1, h2⟩ := lget_ok hl hc
    obtain ⟨x, rfl, h3⟩ := h2
    exact g_aload hT (q := q) ⟨d, rfl⟩ h1 (k.one Pre.rf h Fr.rf hl ⟨⟨x, rfl, h3⟩, hs⟩)
  · cases hst
theorem pt_isn {i : Fin 4} : Tt1 E Y D G P Ws Wa Wp J m pc len T (.istore_n i) := by
  intro s ρ σ lv st l v L hT hD hG hJ hW1 hW2 d hf hln h hl hs hst k
  cases lenOf (a := 1) hln (by decide)
  simp only [step1, disp, s1_istore_n] at hst
  split at hst
  · rename_i a st'
    obtain ⟨w, v', rfl, h1, h2⟩ := hs.cons
    cases ha : a.isI with
    | false => rw [ha] at hst; cases hst
    | true =>
      rw [ha] at hst
      cases Option.some.inj hst
      obtain ⟨y, rfl, h3⟩ := h1.int ha
      exact g_istore_n hT ⟨d, rfl⟩ rfl (Nat.le_of_ble_eq_true hf) rfl (k.one Pre.rf h Fr.rf ⟨⟨rfl, h1⟩, lput_1 hl⟩ h2)
  · cases hst
theorem pt_is {i : Nat} : Tt1 E Y D G P Ws Wa Wp J m pc len T (.istore i) := by
  intro s ρ σ lv st l v L hT hD hG hJ hW1 hW2 d hf hln h hl hs hst k
  cases lenOf (a := 2) hln (by decide)
  simp only [step1, disp, s1_istore] at hst
  split at hst
  · rename_i a st'
    obtain ⟨w, v', rfl, h1, h2⟩ := hs.cons
    cases ha : a.isI with
    | false => rw [ha] at hst; cases hst
    | true =>
      rw [ha] at hst
      cases Option.some.inj hst
      obtain ⟨y, rfl, h3⟩ := h1.int ha
      exact g_istore hT ⟨d, rfl⟩ (Nat.le_of_ble_eq_true hf) rfl (k.one Pre.rf h Fr.rf ⟨⟨rfl, h1⟩, lput_1 hl⟩ h2)
  · cases hst
theorem pt_lsn {i : Fin 4} : Tt1 E Y D G P Ws Wa Wp J m pc len T (.lstore_n i) := by
  intro s ρ σ lv st l v L hT hD hG hJ hW1 hW2 d hf hln h hl hs hst k
  cases lenOf (a := 1) hln (by decide)
  simp only [step1, disp, s1_lstore_n] at hst
  split at hst
  · rename_i a st'
    obtain ⟨w, v', rfl, h1, h2⟩ := hs.cons
    cases ha : a.isL with
    | false => rw [ha] at hst; cases hst
    | true =>
      rw [ha] at hst
      cases Option.some.inj hst
      obtain ⟨y, rfl, h3⟩ := h1.long ha
      exact g_lstore_n hT ⟨d, rfl⟩ rfl (Nat.le_of_ble_eq_true hf) rfl (k.one Pre.rf h Fr.rf ⟨⟨rfl, h1⟩, lput_2 hl⟩ h2)
  · cases hst
theorem pt_ls {i : Nat} : Tt1 E Y D G P Ws Wa Wp J m pc len T (.lstore i) := by
  intro s ρ σ lv st l v L hT hD hG hJ hW1 hW2 d hf hln h hl hs hst k
  cases lenOf (a := 2) hln (by decide)
  simp only [step1, disp, s1_lstore] at hst
  split at hst
  · rename_i a st'
    obtain ⟨w, v', rfl, h1, h2⟩ := hs.cons
    cases ha : a.isL with
    | false => rw [ha] at hst; cases hst
    | true =>
      rw [ha] at hst
      cases Option.some.inj hst
      obtain ⟨y, rfl, h3⟩ := h1.long ha
      exact g_lstore hT ⟨d, rfl⟩ (Nat.le_of_ble_eq_true hf) rfl (k.one Pre.rf h Fr.rf ⟨⟨rfl, h1⟩, lput_2 hl⟩ h2)
  · cases hst
theorem pt_asn {i : Fin 4} : Tt1 E Y D G P Ws Wa Wp J m pc len T (.astore_n i) := by
  intro s ρ σ lv st l v L hT hD hG hJ hW1 hW2 d hf hln h hl hs hst k
  cases lenOf (a := 1) hln (by decide)
  simp only [step1, disp, s1_astore_n] at hst
  split at hst
  · rename_i q st'
    obtain ⟨w, v', rfl, h1, h2⟩ := hs.cons
    cases Option.some.inj hst
    cases h1
    exact g_astore_n hT ⟨d, rfl⟩ rfl (Nat.le_of_ble_eq_true hf) rfl (k.one Pre.rf h Fr.rf ⟨⟨rfl, rfl⟩, lput_1 hl⟩ h2)
  · rename_i b n st'
    obtain ⟨w, v', rfl, h1, h2⟩ := hs.cons
    cases Option.some.inj hst
    obtain ⟨x, rfl, h3⟩ := h1
    exact g_astore_n hT ⟨d, rfl⟩ rfl (Nat.le_of_ble_eq_true hf) rfl (k.one Pre.rf h Fr.rf ⟨⟨rfl, ⟨x, rfl, h3⟩⟩, lput_1 hl⟩ h2)
  · cases hst
theorem pt_inc {i : Nat} {z : Int} : Tt1 E Y D G P Ws Wa Wp J m pc len T (.iinc i z) := by
  intro s ρ σ lv st l v L hT hD hG hJ hW1 hW2 d hf hln h hl hs hst k
  cases lenOf (a := 3) hln (by decide)
  simp only [step1, disp, s1_iinc] at hst
  have hf' := hf
  simp only [Ix.fits, Bool.and_eq_true, ile_iff] at hf'
  split at hst
  · rename_i a hc
    cases ha : a.isI with
    | false => rw [ha] at hst; cases hst
    | true =>
      rw [ha] at hst
      cases Option.some.inj hst
      obtain ⟨q, w, h1, h2⟩ := lget_ok hl hc
      obtain ⟨y, rfl, h3⟩ := h2.int ha
      obtain ⟨ρ', p1, p2, p3, p4⟩ := addc_ok (n := z) (z := y + Int32.ofInt z) h ha h3 (fun q => by
        have e := ofInt32 (n := z) (by omega)
        rw [i_add (by rw [e]; exact q), e])
      exact g_iinc hT (q := q) ⟨d, rfl⟩ h1 rfl (Nat.le_of_ble_eq_true hf'.1) rfl (k.one p1 p2 Fr.rf ⟨⟨rfl, Rv.of_int p3 p4⟩, lput_1 (hl.mono p1)⟩ (hs.mono p1))
  · cases hst
theorem pt_iadd  : Tt1 E Y D G P Ws Wa Wp J m pc len T (.iadd) := by
  intro s ρ σ lv st l v L hT hD hG hJ hW1 hW2 d hf hln h hl hs hst k
  cases lenOf (a := 1) hln (by decide)
  simp only [step1, disp, stBi] at hst
  split at hst
  · rename_i b a st'
    obtain ⟨w1, v1, rfl, hb, hs1⟩ := hs.cons
    obtain ⟨w2, v2, rfl, ha, hs2⟩ := hs1.cons
    cases hc : (a.isI && b.isI) && (!(isDiv .iadd) || nz (dom s b)) with
    | false => rw [hc] at hst; cases hst
    | true =>
      rw [hc] at hst
      cases Option.some.inj hst
      simp only [Bool.and_eq_true, Bool.or_eq_true, Bool.not_eq_true'] at hc
      obtain ⟨x, rfl, hx⟩ := ha.int hc.1.1
      obtain ⟨y, rfl, hy⟩ := hb.int hc.1.2
      obtain ⟨ρ', p1, p2, p3, p4⟩ := bi_ok (o := .iadd) h hc.1.1 hc.1.2 hx hy
      have hk := k.one p1 p2 Fr.rf (hl.mono p1) (v' := .int (Bo.i .iadd x y) :: v2) ⟨Rv.of_int p3 p4, hs2.mono p1⟩
      have hnz : isDiv .iadd = true → ¬ y = 0 := by
        intro ho e
        rcases hc.2 with q | q
        · rw [ho] at q; cases q
        · exact nz_ok q (by have := dom_i h hc.1.2 hy; rw [e] at this; exact this)
      exact g_iadd hT ⟨d, rfl⟩ hk
  · cases hst
theorem pt_isub  : Tt1 E Y D G P Ws Wa Wp J m pc len T (.isub) := by
  intro s ρ σ lv st l v L hT hD hG hJ hW1 hW2 d hf hln h hl hs hst k
  cases lenOf (a := 1) hln (by decide)
  simp only [step1, disp, stBi] at hst
  split at hst
  · rename_i b a st'
    obtain ⟨w1, v1, rfl, hb, hs1⟩ := hs.cons
    obtain ⟨w2, v2, rfl, ha, hs2⟩ := hs1.cons
    cases hc : (a.isI && b.isI) && (!(isDiv .isub) || nz (dom s b)) with
    | false => rw [hc] at hst; cases hst
    | true =>
      rw [hc] at hst
      cases Option.some.inj hst
      simp only [Bool.and_eq_true, Bool.or_eq_true, Bool.not_eq_true'] at hc
      obtain ⟨x, rfl, hx⟩ := ha.int hc.1.1
      obtain ⟨y, rfl, hy⟩ := hb.int hc.1.2
      obtain ⟨ρ', p1, p2, p3, p4⟩ := bi_ok (o := .isub) h hc.1.1 hc.1.2 hx hy
      have hk := k.one p1 p2 Fr.rf (hl.mono p1) (v' := .int (Bo.i .isub x y) :: v2) ⟨Rv.of_int p3 p4, hs2.mono p1⟩
      have hnz : isDiv .isub = true → ¬ y = 0 := by
        intro ho e
        rcases hc.2 with q | q
        · rw [ho] at q; cases q
        · exact nz_ok q (by have := dom_i h hc.1.2 hy; rw [e] at this; exact this)
      exact g_isub hT ⟨d, rfl⟩ hk
  · cases hst
theorem pt_imul  : Tt1 E Y D G P Ws Wa Wp J m pc len T (.imul) := by
  intro s ρ σ lv st l v L hT hD hG hJ hW1 hW2 d hf hln h hl hs hst k
  cases lenOf (a := 1) hln (by decide)
  simp only [step1, disp, stBi] at hst
  split at hst
  · rename_i b a st'
    obtain ⟨w1, v1, rfl, hb, hs1⟩ := hs.cons
    obtain ⟨w2, v2, rfl, ha, hs2⟩ := hs1.cons
    cases hc : (a.isI && b.isI) && (!(isDiv .imul) || nz (dom s b)) with
    | false => rw [hc] at hst; cases hst
    | true =>
      rw [hc] at hst
      cases Option.some.inj hst
      simp only [Bool.and_eq_true, Bool.or_eq_true, Bool.not_eq_true'] at hc
      obtain ⟨x, rfl, hx⟩ := ha.int hc.1.1
      obtain ⟨y, rfl, hy⟩ := hb.int hc.1.2
      obtain ⟨ρ', p1, p2, p3, p4⟩ := bi_ok (o := .imul) h hc.1.1 hc.1.2 hx hy
      have hk := k.one p1 p2 Fr.rf (hl.mono p1) (v' := .int (Bo.i .imul x y) :: v2) ⟨Rv.of_int p3 p4, hs2.mono p1⟩
      have hnz : isDiv .imul = true → ¬ y = 0 := by
        intro ho e
        rcases hc.2 with q | q
        · rw [ho] at q; cases q
        · exact nz_ok q (by have := dom_i h hc.1.2 hy; rw [e] at this; exact this)
      exact g_imul hT ⟨d, rfl⟩ hk
  · cases hst
theorem pt_iand  : Tt1 E Y D G P Ws Wa Wp J m pc len T (.iand) := by
  intro s ρ σ lv st l v L hT hD hG hJ hW1 hW2 d hf hln h hl hs hst k
  cases lenOf (a := 1) hln (by decide)
  simp only [step1, disp, stBi] at hst
  split at hst
  · rename_i b a st'
    obtain ⟨w1, v1, rfl, hb, hs1⟩ := hs.cons
    obtain ⟨w2, v2, rfl, ha, hs2⟩ := hs1.cons
    cases hc : (a.isI && b.isI) && (!(isDiv .iand) || nz (dom s b)) with
    | false => rw [hc] at hst; cases hst
    | true =>
      rw [hc] at hst
      cases Option.some.inj hst
      simp only [Bool.and_eq_true, Bool.or_eq_true, Bool.not_eq_true'] at hc
      obtain ⟨x, rfl, hx⟩ := ha.int hc.1.1
      obtain ⟨y, rfl, hy⟩ := hb.int hc.1.2
      obtain ⟨ρ', p1, p2, p3, p4⟩ := bi_ok (o := .iand) h hc.1.1 hc.1.2 hx hy
      have hk := k.one p1 p2 Fr.rf (hl.mono p1) (v' := .int (Bo.i .iand x y) :: v2) ⟨Rv.of_int p3 p4, hs2.mono p1⟩
      have hnz : isDiv .iand = true → ¬ y = 0 := by
        intro ho e
        rcases hc.2 with q | q
        · rw [ho] at q; cases q
        · exact nz_ok q (by have := dom_i h hc.1.2 hy; rw [e] at this; exact this)
      exact g_iand hT ⟨d, rfl⟩ hk
  · cases hst
theorem pt_ior  : Tt1 E Y D G P Ws Wa Wp J m pc len T (.ior) := by
  intro s ρ σ lv st l v L hT hD hG hJ hW1 hW2 d hf hln h hl hs hst k
  cases lenOf (a := 1) hln (by decide)
  simp only [step1, disp, stBi] at hst
  split at hst
  · rename_i b a st'
    obtain ⟨w1, v1, rfl, hb, hs1⟩ := hs.cons
    obtain ⟨w2, v2, rfl, ha, hs2⟩ := hs1.cons
    cases hc : (a.isI && b.isI) && (!(isDiv .ior) || nz (dom s b)) with
    | false => rw [hc] at hst; cases hst
    | true =>
      rw [hc] at hst
      cases Option.some.inj hst
      simp only [Bool.and_eq_true, Bool.or_eq_true, Bool.not_eq_true'] at hc
      obtain ⟨x, rfl, hx⟩ := ha.int hc.1.1
      obtain ⟨y, rfl, hy⟩ := hb.int hc.1.2
      obtain ⟨ρ', p1, p2, p3, p4⟩ := bi_ok (o := .ior) h hc.1.1 hc.1.2 hx hy
      have hk := k.one p1 p2 Fr.rf (hl.mono p1) (v' := .int (Bo.i .ior x y) :: v2) ⟨Rv.of_int p3 p4, hs2.mono p1⟩
      have hnz : isDiv .ior = true → ¬ y = 0 := by
        intro ho e
        rcases hc.2 with q | q
        · rw [ho] at q; cases q
        · exact nz_ok q (by have := dom_i h hc.1.2 hy; rw [e] at this; exact this)
      exact g_ior hT ⟨d, rfl⟩ hk
  · cases hst
theorem pt_ixor  : Tt1 E Y D G P Ws Wa Wp J m pc len T (.ixor) := by
  intro s ρ σ lv st l v L hT hD hG hJ hW1 hW2 d hf hln h hl hs hst k
  cases lenOf (a := 1) hln (by decide)
  simp only [step1, disp, stBi] at hst
  split at hst
  · rename_i b a st'
    obtain ⟨w1, v1, rfl, hb, hs1⟩ := hs.cons
    obtain ⟨w2, v2, rfl, ha, hs2⟩ := hs1.cons
    cases hc : (a.isI && b.isI) && (!(isDiv .ixor) || nz (dom s b)) with
    | false => rw [hc] at hst; cases hst
    | true =>
      rw [hc] at hst
      cases Option.some.inj hst
      simp only [Bool.and_eq_true, Bool.or_eq_true, Bool.not_eq_true'] at hc
      obtain ⟨x, rfl, hx⟩ := ha.int hc.1.1
      obtain ⟨y, rfl, hy⟩ := hb.int hc.1.2
      obtain ⟨ρ', p1, p2, p3, p4⟩ := bi_ok (o := .ixor) h hc.1.1 hc.1.2 hx hy
      have hk := k.one p1 p2 Fr.rf (hl.mono p1) (v' := .int (Bo.i .ixor x y) :: v2) ⟨Rv.of_int p3 p4, hs2.mono p1⟩
      have hnz : isDiv .ixor = true → ¬ y = 0 := by
        intro ho e
        rcases hc.2 with q | q
        · rw [ho] at q; cases q
        · exact nz_ok q (by have := dom_i h hc.1.2 hy; rw [e] at this; exact this)
      exact g_ixor hT ⟨d, rfl⟩ hk
  · cases hst
theorem pt_ishl  : Tt1 E Y D G P Ws Wa Wp J m pc len T (.ishl) := by
  intro s ρ σ lv st l v L hT hD hG hJ hW1 hW2 d hf hln h hl hs hst k
  cases lenOf (a := 1) hln (by decide)
  simp only [step1, disp, stBi] at hst
  split at hst
  · rename_i b a st'
    obtain ⟨w1, v1, rfl, hb, hs1⟩ := hs.cons
    obtain ⟨w2, v2, rfl, ha, hs2⟩ := hs1.cons
    cases hc : (a.isI && b.isI) && (!(isDiv .ishl) || nz (dom s b)) with
    | false => rw [hc] at hst; cases hst
    | true =>
      rw [hc] at hst
      cases Option.some.inj hst
      simp only [Bool.and_eq_true, Bool.or_eq_true, Bool.not_eq_true'] at hc
      obtain ⟨x, rfl, hx⟩ := ha.int hc.1.1
      obtain ⟨y, rfl, hy⟩ := hb.int hc.1.2
      obtain ⟨ρ', p1, p2, p3, p4⟩ := bi_ok (o := .ishl) h hc.1.1 hc.1.2 hx hy
      have hk := k.one p1 p2 Fr.rf (hl.mono p1) (v' := .int (Bo.i .ishl x y) :: v2) ⟨Rv.of_int p3 p4, hs2.mono p1⟩
      have hnz : isDiv .ishl = true → ¬ y = 0 := by
        intro ho e
        rcases hc.2 with q | q
        · rw [ho] at q; cases q
        · exact nz_ok q (by have := dom_i h hc.1.2 hy; rw [e] at this; exact this)
      exact g_ishl hT ⟨d, rfl⟩ hk
  · cases hst
theorem pt_ishr  : Tt1 E Y D G P Ws Wa Wp J m pc len T (.ishr) := by
  intro s ρ σ lv st l v L hT hD hG hJ hW1 hW2 d hf hln h hl hs hst k
  cases lenOf (a := 1) hln (by decide)
  simp only [step1, disp, stBi] at hst
  split at hst
  · rename_i b a st'
    obtain ⟨w1, v1, rfl, hb, hs1⟩ := hs.cons
    obtain ⟨w2, v2, rfl, ha, hs2⟩ := hs1.cons
    cases hc : (a.isI && b.isI) && (!(isDiv .ishr) || nz (dom s b)) with
    | false => rw [hc] at hst; cases hst
    | true =>
      rw [hc] at hst
      cases Option.some.inj hst
      simp only [Bool.and_eq_true, Bool.or_eq_true, Bool.not_eq_true'] at hc
      obtain ⟨x, rfl, hx⟩ := ha.int hc.1.1
      obtain ⟨y, rfl, hy⟩ := hb.int hc.1.2
      obtain ⟨ρ', p1, p2, p3, p4⟩ := bi_ok (o := .ishr) h hc.1.1 hc.1.2 hx hy
      have hk := k.one p1 p2 Fr.rf (hl.mono p1) (v' := .int (Bo.i .ishr x y) :: v2) ⟨Rv.of_int p3 p4, hs2.mono p1⟩
      have hnz : isDiv .ishr = true → ¬ y = 0 := by
        intro ho e
        rcases hc.2 with q | q
        · rw [ho] at q; cases q
        · exact nz_ok q (by have := dom_i h hc.1.2 hy; rw [e] at this; exact this)
      exact g_ishr hT ⟨d, rfl⟩ hk
  · cases hst
theorem pt_iushr  : Tt1 E Y D G P Ws Wa Wp J m pc len T (.iushr) := by
  intro s ρ σ lv st l v L hT hD hG hJ hW1 hW2 d hf hln h hl hs hst k
  cases lenOf (a := 1) hln (by decide)
  simp only [step1, disp, stBi] at hst
  split at hst
  · rename_i b a st'
    obtain ⟨w1, v1, rfl, hb, hs1⟩ := hs.cons
    obtain ⟨w2, v2, rfl, ha, hs2⟩ := hs1.cons
    cases hc : (a.isI && b.isI) && (!(isDiv .iushr) || nz (dom s b)) with
    | false => rw [hc] at hst; cases hst
    | true =>
      rw [hc] at hst
      cases Option.some.inj hst
      simp only [Bool.and_eq_true, Bool.or_eq_true, Bool.not_eq_true'] at hc
      obtain ⟨x, rfl, hx⟩ := ha.int hc.1.1
      obtain ⟨y, rfl, hy⟩ := hb.int hc.1.2
      obtain ⟨ρ', p1, p2, p3, p4⟩ := bi_ok (o := .iushr) h hc.1.1 hc.1.2 hx hy
      have hk := k.one p1 p2 Fr.rf (hl.mono p1) (v' := .int (Bo.i .iushr x y) :: v2) ⟨Rv.of_int p3 p4, hs2.mono p1⟩
      have hnz : isDiv .iushr = true → ¬ y = 0 := by
        intro ho e
        rcases hc.2 with q | q
        · rw [ho] at q; cases q
        · exact nz_ok q (by have := dom_i h hc.1.2 hy; rw [e] at this; exact this)
      exact g_iushr hT ⟨d, rfl⟩ rfl hk
  · cases hst
theorem pt_idiv  : Tt1 E Y D G P Ws Wa Wp J m pc len T (.idiv) := by
  intro s ρ σ lv st l v L hT hD hG hJ hW1 hW2 d hf hln h hl hs hst k
  cases lenOf (a := 1) hln (by decide)
  simp only [step1, disp, stBi] at hst
  split at hst
  · rename_i b a st'
    obtain ⟨w1, v1, rfl, hb, hs1⟩ := hs.cons
    obtain ⟨w2, v2, rfl, ha, hs2⟩ := hs1.cons
    cases hc : (a.isI && b.isI) && (!(isDiv .idiv) || nz (dom s b)) with
    | false => rw [hc] at hst; cases hst
    | true =>
      rw [hc] at hst
      cases Option.some.inj hst
      simp only [Bool.and_eq_true, Bool.or_eq_true, Bool.not_eq_true'] at hc
      obtain ⟨x, rfl, hx⟩ := ha.int hc.1.1
      obtain ⟨y, rfl, hy⟩ := hb.int hc.1.2
      obtain ⟨ρ', p1, p2, p3, p4⟩ := bi_ok (o := .idiv) h hc.1.1 hc.1.2 hx hy
      have hk := k.one p1 p2 Fr.rf (hl.mono p1) (v' := .int (Bo.i .idiv x y) :: v2) ⟨Rv.of_int p3 p4, hs2.mono p1⟩
      have hnz : isDiv .idiv = true → ¬ y = 0 := by
        intro ho e
        rcases hc.2 with q | q
        · rw [ho] at q; cases q
        · exact nz_ok q (by have := dom_i h hc.1.2 hy; rw [e] at this; exact this)
      exact g_idiv hT ⟨d, rfl⟩ (hnz rfl) hk
  · cases hst
theorem pt_irem  : Tt1 E Y D G P Ws Wa Wp J m pc len T (.irem) := by
  intro s ρ σ lv st l v L hT hD hG hJ hW1 hW2 d hf hln h hl hs hst k
  cases lenOf (a := 1) hln (by decide)
  simp only [step1, disp, stBi] at hst
  split at hst
  · rename_i b a st'
    obtain ⟨w1, v1, rfl, hb, hs1⟩ := hs.cons
    obtain ⟨w2, v2, rfl, ha, hs2⟩ := hs1.cons
    cases hc : (a.isI && b.isI) && (!(isDiv .irem) || nz (dom s b)) with
    | false => rw [hc] at hst; cases hst
    | true =>
      rw [hc] at hst
      cases Option.some.inj hst
      simp only [Bool.and_eq_true, Bool.or_eq_true, Bool.not_eq_true'] at hc
      obtain ⟨x, rfl, hx⟩ := ha.int hc.1.1
      obtain ⟨y, rfl, hy⟩ := hb.int hc.1.2
      obtain ⟨ρ', p1, p2, p3, p4⟩ := bi_ok (o := .irem) h hc.1.1 hc.1.2 hx hy
      have hk := k.one p1 p2 Fr.rf (hl.mono p1) (v' := .int (Bo.i .irem x y) :: v2) ⟨Rv.of_int p3 p4, hs2.mono p1⟩
      have hnz : isDiv .irem = true → ¬ y = 0 := by
        intro ho e
        rcases hc.2 with q | q
        · rw [ho] at q; cases q
        · exact nz_ok q (by have := dom_i h hc.1.2 hy; rw [e] at this; exact this)
      exact g_irem hT ⟨d, rfl⟩ (hnz rfl) hk
  · cases hst
theorem pt_ladd  : Tt1 E Y D G P Ws Wa Wp J m pc len T (.ladd) := by
  intro s ρ σ lv st l v L hT hD hG hJ hW1 hW2 d hf hln h hl hs hst k
  cases lenOf (a := 1) hln (by decide)
  simp only [step1, disp, s1_ladd] at hst
  split at hst
  · rename_i b a st'
    obtain ⟨w1, v1, rfl, hb, hs1⟩ := hs.cons
    obtain ⟨w2, v2, rfl, ha, hs2⟩ := hs1.cons
    cases hc : a.isL && b.isL with
    | false => rw [hc] at hst; cases hst
    | true =>
      rw [hc] at hst
      cases Option.some.inj hst
      simp only [Bool.and_eq_true] at hc
      obtain ⟨x, rfl, hx⟩ := ha.long hc.1
      obtain ⟨y, rfl, hy⟩ := hb.long hc.2
      have e : x.toInt + 1 * y.toInt = x.toInt + y.toInt := by omega
      obtain ⟨ρ', p1, p2, p3, p4⟩ := sumL_ok (w := 1) (d := dmm f_dadd (dom s a) (dom s b)) (z := x + y) h hx hy (by rw [e]; exact dmap2_in (fun p q _ _ _ _ => by unfold f_dadd; dsimp only; omega) (few_in (dom_l h hc.1 hx)) (few_in (dom_l h hc.2 hy))) (fun q => by rw [e] at q ⊢; rw [Int64.toInt_add, bm64 q])
      exact g_ladd hT ⟨d, rfl⟩ (k.one p1 p2 Fr.rf (hl.mono p1) ⟨Rv.of_long p3 p4, hs2.mono p1⟩)
  · cases hst
theorem pt_lsub  : Tt1 E Y D G P Ws Wa Wp J m pc len T (.lsub) := by
  intro s ρ σ lv st l v L hT hD hG hJ hW1 hW2 d hf hln h hl hs hst k
  cases lenOf (a := 1) hln (by decide)
  simp only [step1, disp, s1_lsub] at hst
  split at hst
  · rename_i b a st'
    obtain ⟨w1, v1, rfl, hb, hs1⟩ := hs.cons
    obtain ⟨w2, v2, rfl, ha, hs2⟩ := hs1.cons
    cases hc : a.isL && b.isL with
    | false => rw [hc] at hst; cases hst
    | true =>
      rw [hc] at hst
      cases Option.some.inj hst
      simp only [Bool.and_eq_true] at hc
      obtain ⟨x, rfl, hx⟩ := ha.long hc.1
      obtain ⟨y, rfl, hy⟩ := hb.long hc.2
      have e : x.toInt + (-1) * y.toInt = x.toInt - y.toInt := by omega
      obtain ⟨ρ', p1, p2, p3, p4⟩ := sumL_ok (w := (-1)) (d := dmm f_dsub (dom s a) (dom s b)) (z := x - y) h hx hy (by rw [e]; exact dmap2_in (fun p q _ _ _ _ => by unfold f_dsub; dsimp only; omega) (few_in (dom_l h hc.1 hx)) (few_in (dom_l h hc.2 hy))) (fun q => by rw [e] at q ⊢; rw [Int64.toInt_sub, bm64 q])
      exact g_lsub hT ⟨d, rfl⟩ (k.one p1 p2 Fr.rf (hl.mono p1) ⟨Rv.of_long p3 p4, hs2.mono p1⟩)
  · cases hst
theorem pt_lmul  : Tt1 E Y D G P Ws Wa Wp J m pc len T (.lmul) := by
  intro s ρ σ lv st l v L hT hD hG hJ hW1 hW2 d hf hln h hl hs hst k
  cases lenOf (a := 1) hln (by decide)
  simp only [step1, disp, stBl] at hst
  split at hst
  · rename_i b a st'
    obtain ⟨w1, v1, rfl, hb, hs1⟩ := hs.cons
    obtain ⟨w2, v2, rfl, ha, hs2⟩ := hs1.cons
    cases hcx : (a.isL && b.isL) && (lx .lmul s a b).isSome with
    | true =>
      rw [hcx] at hst
      simp only [cond_true] at hst
      rw [Bool.and_eq_true, Bool.and_eq_true] at hcx
      obtain ⟨x, rfl, hx⟩ := ha.long hcx.1.1
      obtain ⟨y, rfl, hy⟩ := hb.long hcx.1.2
      cases hr : lx .lmul s a b with
      | none => rw [hr] at hcx; cases hcx.2
      | some r =>
        rw [hr] at hst
        cases Option.some.inj hst
        obtain ⟨ρ', p1, p2, p3, p4⟩ := lxMul_ok h hcx.1.1 hx hy hr
        exact g_lmul hT ⟨d, rfl⟩ (k.one p1 p2 Fr.rf (hl.mono p1) ⟨Rv.of_long p3 p4, hs2.mono p1⟩)
    | false =>
    rw [hcx] at hst
    simp only [cond_false] at hst
    have hd0 : b.isL = true → ∀ y : Int64, ev ρ b = some y.toInt → nz (dom s b) = true → ¬ y = 0 := by
      intro q y hy hz e
      exact nz_ok hz (by have := dom_l h q hy; rw [e] at this; exact this)
    cases hc9 : (a.isL && b.isL) && (lspec .lmul a b (dom s a)).isSome with
    | true =>
      rw [hc9] at hst
      cases Option.some.inj hst
      rw [Bool.and_eq_true, Bool.and_eq_true] at hc9
      obtain ⟨⟨c1, c2⟩, c3⟩ := hc9
      obtain ⟨x, rfl, hx⟩ := ha.long c1
      obtain ⟨y, rfl, hy⟩ := hb.long c2
      obtain ⟨w, hw⟩ := Option.isSome_iff_exists.mp c3
      rw [hw] at k
      have ez : ∀ q : Int64, q.toInt = 0 → q = 0 := fun q hq => Int64.toInt_inj.mp (hq.trans (by decide))
      simp only [lspec] at hw
      cases hq : AV.eq a (.k 0) || AV.eq b (.k 0) with
      | false => rw [hq] at hw; cases hw
      | true =>
        rw [hq] at hw
        cases Option.some.inj hw
        rw [Bool.or_eq_true] at hq
        have hz : x * y = 0 := by
          rcases hq with hq | hq
          · rw [AV.eq_of hq] at hx
            rw [ez x (Option.some.inj hx).symm]
            simp
          · rw [AV.eq_of hq] at hy
            rw [ez y (Option.some.inj hy).symm]
            simp
        refine g_lmul hT ⟨d, rfl⟩ ?_
        rw [hz]
        exact k.one Pre.rf h Fr.rf hl ⟨⟨0, rfl, by decide⟩, hs2⟩
    | false =>
    rw [hc9] at hst
    simp only [cond_false] at hst
    cases hc : (a.isL && b.isL) && blOk .lmul s b with
    | false => rw [hc] at hst; cases hst
    | true =>
      rw [hc] at hst
      cases Option.some.inj hst
      simp only [Bool.and_eq_true] at hc
      obtain ⟨x, rfl, hx⟩ := ha.long hc.1.1
      obtain ⟨y, rfl, hy⟩ := hb.long hc.1.2
      obtain ⟨ρ', p1, p2, p3, p4⟩ := newL_ok (y := x * y) h (in64 _)
      exact g_lmul hT ⟨d, rfl⟩ (k.one p1 p2 Fr.rf (hl.mono p1) ⟨Rv.of_long p3 p4, hs2.mono p1⟩)
  · cases hst
theorem pt_land  : Tt1 E Y D G P Ws Wa Wp J m pc len T (.land) := by
  intro s ρ σ lv st l v L hT hD hG hJ hW1 hW2 d hf hln h hl hs hst k
  cases lenOf (a := 1) hln (by decide)
  simp only [step1, disp, stBl] at hst
  split at hst
  · rename_i b a st'
    obtain ⟨w1, v1, rfl, hb, hs1⟩ := hs.cons
    obtain ⟨w2, v2, rfl, ha, hs2⟩ := hs1.cons
    cases hcx : (a.isL && b.isL) && (lx .land s a b).isSome with
    | true =>
      rw [hcx] at hst
      simp only [cond_true] at hst
      rw [Bool.and_eq_true, Bool.and_eq_true] at hcx
      obtain ⟨x, rfl, hx⟩ := ha.long hcx.1.1
      obtain ⟨y, rfl, hy⟩ := hb.long hcx.1.2
      cases hr : lx .land s a b with
      | none => rw [hr] at hcx; cases hcx.2
      | some r =>
        rw [hr] at hst
        cases Option.some.inj hst
        obtain ⟨ρ', p1, p2, p3, p4⟩ := lxAnd_ok h hcx.1.1 hx hy hr
        exact g_land hT ⟨d, rfl⟩ (k.one p1 p2 Fr.rf (hl.mono p1) ⟨Rv.of_long p3 p4, hs2.mono p1⟩)
    | false =>
    rw [hcx] at hst
    simp only [cond_false] at hst
    have hd0 : b.isL = true → ∀ y : Int64, ev ρ b = some y.toInt → nz (dom s b) = true → ¬ y = 0 := by
      intro q y hy hz e
      exact nz_ok hz (by have := dom_l h q hy; rw [e] at this; exact this)
    cases hc9 : (a.isL && b.isL) && (lspec .land a b (dom s a)).isSome with
    | true =>
      rw [Bool.and_eq_true] at hc9
      cases hc9.2
    | false =>
    rw [hc9] at hst
    simp only [cond_false] at hst
    cases hc : (a.isL && b.isL) && blOk .land s b with
    | false => rw [hc] at hst; cases hst
    | true =>
      rw [hc] at hst
      cases Option.some.inj hst
      simp only [Bool.and_eq_true] at hc
      obtain ⟨x, rfl, hx⟩ := ha.long hc.1.1
      obtain ⟨y, rfl, hy⟩ := hb.long hc.1.2
      obtain ⟨ρ', p1, p2, p3, p4⟩ := newL_ok (y := x &&& y) h (land_in hc.1.1 hc.1.2 hx hy)
      exact g_land hT ⟨d, rfl⟩ (k.one p1 p2 Fr.rf (hl.mono p1) ⟨Rv.of_long p3 p4, hs2.mono p1⟩)
  · cases hst
theorem pt_lor  : Tt1 E Y D G P Ws Wa Wp J m pc len T (.lor) := by
  intro s ρ σ lv st l v L hT hD hG hJ hW1 hW2 d hf hln h hl hs hst k
  cases lenOf (a := 1) hln (by decide)
  simp only [step1, disp, stBl] at hst
  split at hst
  · rename_i b a st'
    obtain ⟨w1, v1, rfl, hb, hs1⟩ := hs.cons
    obtain ⟨w2, v2, rfl, ha, hs2⟩ := hs1.cons
    cases hcx : (a.isL && b.isL) && (lx .lor s a b).isSome with
    | true =>
      rw [hcx] at hst
      simp only [cond_true] at hst
      rw [Bool.and_eq_true, Bool.and_eq_true] at hcx
      obtain ⟨x, rfl, hx⟩ := ha.long hcx.1.1
      obtain ⟨y, rfl, hy⟩ := hb.long hcx.1.2
      cases hr : lx .lor s a b with
      | none => rw [hr] at hcx; cases hcx.2
      | some r =>
        rw [hr] at hst
        cases Option.some.inj hst
        obtain ⟨ρ', p1, p2, p3, p4⟩ := lxOr_ok h hcx.1.1 hx hy hr
        exact g_lor hT ⟨d, rfl⟩ (k.one p1 p2 Fr.rf (hl.mono p1) ⟨Rv.of_long p3 p4, hs2.mono p1⟩)
    | false =>
    rw [hcx] at hst
    simp only [cond_false] at hst
    have hd0 : b.isL = true → ∀ y : Int64, ev ρ b = some y.toInt → nz (dom s b) = true → ¬ y = 0 := by
      intro q y hy hz e
      exact nz_ok hz (by have := dom_l h q hy; rw [e] at this; exact this)
    cases hc9 : (a.isL && b.isL) && (lspec .lor a b (dom s a)).isSome with
    | true =>
      rw [Bool.and_eq_true] at hc9
      cases hc9.2
    | false =>
    rw [hc9] at hst
    simp only [cond_false] at hst
    cases hc : (a.isL && b.isL) && blOk .lor s b with
    | false => rw [hc] at hst; cases hst
    | true =>
      rw [hc] at hst
      cases Option.some.inj hst
      simp only [Bool.and_eq_true] at hc
      obtain ⟨x, rfl, hx⟩ := ha.long hc.1.1
      obtain ⟨y, rfl, hy⟩ := hb.long hc.1.2
      obtain ⟨ρ', p1, p2, p3, p4⟩ := newL_ok (y := x ||| y) h (in64 _)
      exact g_lor hT ⟨d, rfl⟩ (k.one p1 p2 Fr.rf (hl.mono p1) ⟨Rv.of_long p3 p4, hs2.mono p1⟩)
  · cases hst
theorem pt_lxor  : Tt1 E Y D G P Ws Wa Wp J m pc len T (.lxor) := by
  intro s ρ σ lv st l v L hT hD hG hJ hW1 hW2 d hf hln h hl hs hst k
  cases lenOf (a := 1) hln (by decide)
  simp only [step1, disp, stBl] at hst
  split at hst
  · rename_i b a st'
    obtain ⟨w1, v1, rfl, hb, hs1⟩ := hs.cons
    obtain ⟨w2, v2, rfl, ha, hs2⟩ := hs1.cons
    cases hcx : (a.isL && b.isL) && (lx .lxor s a b).isSome with
    | true =>
      rw [Bool.and_eq_true] at hcx
      cases hcx.2
    | false =>
    rw [hcx] at hst
    simp only [cond_false] at hst
    have hd0 : b.isL = true → ∀ y : Int64, ev ρ b = some y.toInt → nz (dom s b) = true → ¬ y = 0 := by
      intro q y hy hz e
      exact nz_ok hz (by have := dom_l h q hy; rw [e] at this; exact this)
    cases hc9 : (a.isL && b.isL) && (lspec .lxor a b (dom s a)).isSome with
    | true =>
      rw [Bool.and_eq_true] at hc9
      cases hc9.2
    | false =>
    rw [hc9] at hst
    simp only [cond_false] at hst
    cases hc : (a.isL && b.isL) && blOk .lxor s b with
    | false => rw [hc] at hst; cases hst
    | true =>
      rw [hc] at hst
      cases Option.some.inj hst
      simp only [Bool.and_eq_true] at hc
      obtain ⟨x, rfl, hx⟩ := ha.long hc.1.1
      obtain ⟨y, rfl, hy⟩ := hb.long hc.1.2
      obtain ⟨ρ', p1, p2, p3, p4⟩ := newL_ok (y := x ^^^ y) h (in64 _)
      exact g_lxor hT ⟨d, rfl⟩ (k.one p1 p2 Fr.rf (hl.mono p1) ⟨Rv.of_long p3 p4, hs2.mono p1⟩)
  · cases hst
theorem pt_ldiv  : Tt1 E Y D G P Ws Wa Wp J m pc len T (.ldiv) := by
  intro s ρ σ lv st l v L hT hD hG hJ hW1 hW2 d hf hln h hl hs hst k
  cases lenOf (a := 1) hln (by decide)
  simp only [step1, disp, stBl] at hst
  split at hst
  · rename_i b a st'
    obtain ⟨w1, v1, rfl, hb, hs1⟩ := hs.cons
    obtain ⟨w2, v2, rfl, ha, hs2⟩ := hs1.cons
    cases hcx : (a.isL && b.isL) && (lx .ldiv s a b).isSome with
    | true =>
      rw [hcx] at hst
      simp only [cond_true] at hst
      rw [Bool.and_eq_true, Bool.and_eq_true] at hcx
      obtain ⟨x, rfl, hx⟩ := ha.long hcx.1.1
      obtain ⟨y, rfl, hy⟩ := hb.long hcx.1.2
      cases hr : lx .ldiv s a b with
      | none => rw [hr] at hcx; cases hcx.2
      | some r =>
        rw [hr] at hst
        cases Option.some.inj hst
        obtain ⟨hne, ρ', p1, p2, p3, p4⟩ := lxDiv_ok h hcx.1.1 hx hy hr
        exact g_ldiv hT ⟨d, rfl⟩ hne (k.one p1 p2 Fr.rf (hl.mono p1) ⟨Rv.of_long p3 p4, hs2.mono p1⟩)
    | false =>
    rw [hcx] at hst
    simp only [cond_false] at hst
    have hd0 : b.isL = true → ∀ y : Int64, ev ρ b = some y.toInt → nz (dom s b) = true → ¬ y = 0 := by
      intro q y hy hz e
      exact nz_ok hz (by have := dom_l h q hy; rw [e] at this; exact this)
    cases hc9 : (a.isL && b.isL) && (lspec .ldiv a b (dom s a)).isSome with
    | true =>
      rw [Bool.and_eq_true] at hc9
      cases hc9.2
    | false =>
    rw [hc9] at hst
    simp only [cond_false] at hst
    cases hc : (a.isL && b.isL) && blOk .ldiv s b with
    | false => rw [hc] at hst; cases hst
    | true =>
      rw [hc] at hst
      cases Option.some.inj hst
      simp only [Bool.and_eq_true] at hc
      obtain ⟨x, rfl, hx⟩ := ha.long hc.1.1
      obtain ⟨y, rfl, hy⟩ := hb.long hc.1.2
      obtain ⟨ρ', p1, p2, p3, p4⟩ := newL_ok (y := x / y) h (in64 _)
      exact g_ldiv hT ⟨d, rfl⟩ (hd0 hc.1.2 y hy hc.2) (k.one p1 p2 Fr.rf (hl.mono p1) ⟨Rv.of_long p3 p4, hs2.mono p1⟩)
  · cases hst
theorem pt_lrem  : Tt1 E Y D G P Ws Wa Wp J m pc len T (.lrem) := by
  intro s ρ σ lv st l v L hT hD hG hJ hW1 hW2 d hf hln h hl hs hst k
  cases lenOf (a := 1) hln (by decide)
  simp only [step1, disp, stBl] at hst
  split at hst
  · rename_i b a st'
    obtain ⟨w1, v1, rfl, hb, hs1⟩ := hs.cons
    obtain ⟨w2, v2, rfl, ha, hs2⟩ := hs1.cons
    cases hcx : (a.isL && b.isL) && (lx .lrem s a b).isSome with
    | true =>
      rw [hcx] at hst
      simp only [cond_true] at hst
      rw [Bool.and_eq_true, Bool.and_eq_true] at hcx
      obtain ⟨x, rfl, hx⟩ := ha.long hcx.1.1
      obtain ⟨y, rfl, hy⟩ := hb.long hcx.1.2
      cases hr : lx .lrem s a b with
      | none => rw [hr] at hcx; cases hcx.2
      | some r =>
        rw [hr] at hst
        cases Option.some.inj hst
        obtain ⟨hne, ρ', p1, p2, p3, p4⟩ := lxRem_ok h hcx.1.1 hcx.1.2 hx hy hr
        exact g_lrem hT ⟨d, rfl⟩ hne (k.one p1 p2 Fr.rf (hl.mono p1) ⟨Rv.of_long p3 p4, hs2.mono p1⟩)
    | false =>
    rw [hcx] at hst
    simp only [cond_false] at hst
    have hd0 : b.isL = true → ∀ y : Int64, ev ρ b = some y.toInt → nz (dom s b) = true → ¬ y = 0 := by
      intro q y hy hz e
      exact nz_ok hz (by have := dom_l h q hy; rw [e] at this; exact this)
    cases hc9 : (a.isL && b.isL) && (lspec .lrem a b (dom s a)).isSome with
    | true =>
      rw [hc9] at hst
      cases Option.some.inj hst
      rw [Bool.and_eq_true, Bool.and_eq_true] at hc9
      obtain ⟨⟨c1, c2⟩, c3⟩ := hc9
      obtain ⟨x, rfl, hx⟩ := ha.long c1
      obtain ⟨y, rfl, hy⟩ := hb.long c2
      obtain ⟨w, hw⟩ := Option.isSome_iff_exists.mp c3
      rw [hw] at k
      have ez : ∀ q : Int64, q.toInt = 0 → q = 0 := fun q hq => Int64.toInt_inj.mp (hq.trans (by decide))
      simp only [lspec] at hw
      split at hw
      · rename_i n
        cases hq : dsub (dom s a) [(0, n - 1)] with
        | false => rw [hq] at hw; cases hw
        | true =>
          rw [hq] at hw
          cases Option.some.inj hw
          have g1 := inD_one (dsub_in hq (dom_l h c1 hx))
          have g2 : n = y.toInt := Option.some.inj hy
          have hrem : x - x / y * y = x := rem_self g1.1 (by omega)
          refine g_lrem hT ⟨d, rfl⟩ (fun e => ?_) ?_
          · have e0 : (0 : Int64).toInt = 0 := by decide
            rw [e, e0] at g2
            omega
          · rw [hrem]
            exact k.one Pre.rf h Fr.rf hl ⟨ha, hs2⟩
      · cases hw
    | false =>
    rw [hc9] at hst
    simp only [cond_false] at hst
    cases hc : (a.isL && b.isL) && blOk .lrem s b with
    | false => rw [hc] at hst; cases hst
    | true =>
      rw [hc] at hst
      cases Option.some.inj hst
      simp only [Bool.and_eq_true] at hc
      obtain ⟨x, rfl, hx⟩ := ha.long hc.1.1
      obtain ⟨y, rfl, hy⟩ := hb.long hc.1.2
      obtain ⟨ρ', p1, p2, p3, p4⟩ := newL_ok (y := x - x / y * y) h (in64 _)
      exact g_lrem hT ⟨d, rfl⟩ (hd0 hc.1.2 y hy hc.2) (k.one p1 p2 Fr.rf (hl.mono p1) ⟨Rv.of_long p3 p4, hs2.mono p1⟩)
  · cases hst
theorem pt_lshl  : Tt1 E Y D G P Ws Wa Wp J m pc len T (.lshl) := by
  intro s ρ σ lv st l v L hT hD hG hJ hW1 hW2 d hf hln h hl hs hst k
  cases lenOf (a := 1) hln (by decide)
  simp only [step1, disp, stSl] at hst
  split at hst
  · rename_i b a st'
    obtain ⟨w1, v1, rfl, hb, hs1⟩ := hs.cons
    obtain ⟨w2, v2, rfl, ha, hs2⟩ := hs1.cons
    cases hcx : (a.isL && b.isI) && (lx .lshl s a b).isSome with
    | true =>
      rw [hcx] at hst
      simp only [cond_true] at hst
      rw [Bool.and_eq_true, Bool.and_eq_true] at hcx
      obtain ⟨x, rfl, hx⟩ := ha.long hcx.1.1
      obtain ⟨y, rfl, hy⟩ := hb.int hcx.1.2
      cases hr : lx .lshl s a b with
      | none => rw [hr] at hcx; cases hcx.2
      | some r =>
        rw [hr] at hst
        cases Option.some.inj hst
        obtain ⟨ρ', p1, p2, p3, p4⟩ := lxShl_ok h hcx.1.1 hcx.1.2 hx hy hr
        exact g_lshl hT ⟨d, rfl⟩ rfl (k.one p1 p2 Fr.rf (hl.mono p1) ⟨Rv.of_long p3 p4, hs2.mono p1⟩)
    | false =>
    rw [hcx] at hst
    simp only [cond_false] at hst
    cases hc9 : a.isL && (isShr .lshl && AV.eq b (.c 0)) with
    | true =>
      rw [Bool.and_eq_true] at hc9
      cases hc9.2
    | false =>
    rw [hc9] at hst
    simp only [cond_false] at hst
    cases hc : a.isL && b.isI with
    | false => rw [hc] at hst; cases hst
    | true =>
      rw [hc] at hst
      cases Option.some.inj hst
      simp only [Bool.and_eq_true] at hc
      obtain ⟨x, rfl, hx⟩ := ha.long hc.1
      obtain ⟨y, rfl, hy⟩ := hb.int hc.2
      obtain ⟨ρ', p1, p2, p3, p4⟩ := newL_ok (y := j_lshl x y) h (in64 _)
      exact g_lshl hT ⟨d, rfl⟩ rfl (k.one p1 p2 Fr.rf (hl.mono p1) ⟨Rv.of_long p3 p4, hs2.mono p1⟩)
  · cases hst
theorem pt_lshr  : Tt1 E Y D G P Ws Wa Wp J m pc len T (.lshr) := by
  intro s ρ σ lv st l v L hT hD hG hJ hW1 hW2 d hf hln h hl hs hst k
  cases lenOf (a := 1) hln (by decide)
  simp only [step1, disp, stSl] at hst
  split at hst
  · rename_i b a st'
    obtain ⟨w1, v1, rfl, hb, hs1⟩ := hs.cons
    obtain ⟨w2, v2, rfl, ha, hs2⟩ := hs1.cons
    cases hcx : (a.isL && b.isI) && (lx .lshr s a b).isSome with
    | true =>
      rw [Bool.and_eq_true] at hcx
      cases hcx.2
    | false =>
    rw [hcx] at hst
    simp only [cond_false] at hst
    cases hc9 : a.isL && (isShr .lshr && AV.eq b (.c 0)) with
    | true =>
      rw [hc9] at hst
      cases Option.some.inj hst
      rw [Bool.and_eq_true] at hc9
      obtain ⟨c1, c2⟩ := hc9
      obtain ⟨x, rfl, hx⟩ := ha.long c1
      have hq : AV.eq b (.c 0) = true := c2
      rw [AV.eq_of hq] at hb
      obtain ⟨y, rfl, hy⟩ := hb
      have hy0 : y = 0 := Int32.toInt_inj.mp (hy.symm.trans (by decide))
      have e9 : j_lshr x y = x := by rw [hy0, shr0]
      refine g_lshr hT ⟨d, rfl⟩ rfl ?_
      show T m (pc + 1) l (.long (j_lshr x y) :: v2) σ
      rw [e9]
      exact k.one Pre.rf h Fr.rf hl ⟨ha, hs2⟩
    | false =>
    rw [hc9] at hst
    simp only [cond_false] at hst
    cases hc : a.isL && b.isI with
    | false => rw [hc] at hst; cases hst
    | true =>
      rw [hc] at hst
      cases Option.some.inj hst
      simp only [Bool.and_eq_true] at hc
      obtain ⟨x, rfl, hx⟩ := ha.long hc.1
      obtain ⟨y, rfl, hy⟩ := hb.int hc.2
      obtain ⟨ρ', p1, p2, p3, p4⟩ := newL_ok (y := j_lshr x y) h (lshr_in (b := b) (dom_l h hc.1 hx) hy)
      refine g_lshr hT ⟨d, rfl⟩ rfl (k.one p1 ?_ Fr.rf (hl.mono p1) ⟨Rv.of_long p3 p4, hs2.mono p1⟩)
      cases hs9 : shf .lshr b && ile 1 (dlo (dom s a)) with
      | false => exact p2
      | true =>
        rw [Bool.and_eq_true] at hs9
        exact less_ok p2 p4 (ev.mono p1 hx) (lshr_lt (dom_l h hc.1 hx) hy hs9.1 hs9.2)
  · cases hst
theorem pt_lushr  : Tt1 E Y D G P Ws Wa Wp J m pc len T (.lushr) := by
  intro s ρ σ lv st l v L hT hD hG hJ hW1 hW2 d hf hln h hl hs hst k
  cases lenOf (a := 1) hln (by decide)
  simp only [step1, disp, stSl] at hst
  split at hst
  · rename_i b a st'
    obtain ⟨w1, v1, rfl, hb, hs1⟩ := hs.cons
    obtain ⟨w2, v2, rfl, ha, hs2⟩ := hs1.cons
    cases hcx : (a.isL && b.isI) && (lx .lushr s a b).isSome with
    | true =>
      rw [hcx] at hst
      simp only [cond_true] at hst
      rw [Bool.and_eq_true, Bool.and_eq_true] at hcx
      obtain ⟨x, rfl, hx⟩ := ha.long hcx.1.1
      obtain ⟨y, rfl, hy⟩ := hb.int hcx.1.2
      cases hr : lx .lushr s a b with
      | none => rw [hr] at hcx; cases hcx.2
      | some r =>
        rw [hr] at hst
        cases Option.some.inj hst
        obtain ⟨ρ', p1, p2, p3, p4⟩ := lxUshr_ok h hcx.1.1 hx hy hr
        exact g_lushr hT ⟨d, rfl⟩ rfl (k.one p1 p2 Fr.rf (hl.mono p1) ⟨Rv.of_long p3 p4, hs2.mono p1⟩)
    | false =>
    rw [hcx] at hst
    simp only [cond_false] at hst
    cases hc9 : a.isL && (isShr .lushr && AV.eq b (.c 0)) with
    | true =>
      rw [Bool.and_eq_true] at hc9
      cases hc9.2
    | false =>
    rw [hc9] at hst
    simp only [cond_false] at hst
    cases hc : a.isL && b.isI with
    | false => rw [hc] at hst; cases hst
    | true =>
      rw [hc] at hst
      cases Option.some.inj hst
      simp only [Bool.and_eq_true] at hc
      obtain ⟨x, rfl, hx⟩ := ha.long hc.1
      obtain ⟨y, rfl, hy⟩ := hb.int hc.2
      obtain ⟨ρ', p1, p2, p3, p4⟩ := newL_ok (y := j_lushr x y) h (lushr_in (b := b) (dom_l h hc.1 hx) hy)
      refine g_lushr hT ⟨d, rfl⟩ rfl (k.one p1 ?_ Fr.rf (hl.mono p1) ⟨Rv.of_long p3 p4, hs2.mono p1⟩)
      cases hs9 : shf .lushr b && ile 1 (dlo (dom s a)) with
      | false => exact p2
      | true =>
        rw [Bool.and_eq_true] at hs9
        exact less_ok p2 p4 (ev.mono p1 hx) (lushr_lt (dom_l h hc.1 hx) hy hs9.1 hs9.2)
  · cases hst
theorem pt_ineg  : Tt1 E Y D G P Ws Wa Wp J m pc len T (.ineg) := by
  intro s ρ σ lv st l v L hT hD hG hJ hW1 hW2 d hf hln h hl hs hst k
  cases lenOf (a := 1) hln (by decide)
  simp only [step1, disp, s1_ineg] at hst
  split at hst
  · rename_i a st'
    obtain ⟨w1, v1, rfl, ha, hs2⟩ := hs.cons
    cases hc : a.isI with
    | false => rw [hc] at hst; cases hst
    | true =>
      rw [hc] at hst
      obtain ⟨x, rfl, hx⟩ := ha.int hc
      simp only [cond_true] at hst
      cases hc2 : ile (-2147483647) (dlo (dom s a)) with
      | true =>
        rw [hc2] at hst
        cases Option.some.inj hst
        have hc3 := ile_iff.mp hc2
        have hd := dom_i h hc hx
        have l1 := dlo_le hd
        have l2 := le_dhi hd
        obtain ⟨w, f1, f2⟩ := nf_ok h hx
        have hm := Int32.le_toInt x
        have hM : x.toInt ≤ 2147483647 := Int32.toInt_le x
        have hneg : (-x).toInt = -x.toInt := by
          rw [Int32.toInt_neg]
          exact bm32 ⟨by omega, by omega⟩
        obtain ⟨ρ', p1, p2, p3, p4⟩ := lin_ok (lg := false) h (tlin_ok (w := -1) f1 (f := []) (v := 0) rfl) (x := (-x).toInt) (k := -(nf s a).2) (by rw [hneg]; omega) (d := [(-(dhi (dom s a)), -(dlo (dom s a)))]) ⟨_, List.mem_cons_self .., by dsimp only; omega, by dsimp only; omega⟩
        exact g_ineg hT ⟨d, rfl⟩ (k.one p1 p2 Fr.rf (hl.mono p1) ⟨Rv.of_int p3.2 p4, hs2.mono p1⟩)
      | false =>
      rw [hc2] at hst
      cases Option.some.inj hst
      obtain ⟨ρ', p1, p2, p3, p4⟩ := newI_ok (y := -x) h (in32 _)
      exact g_ineg hT ⟨d, rfl⟩ (k.one p1 p2 Fr.rf (hl.mono p1) ⟨Rv.of_int p3 p4, hs2.mono p1⟩)
  · cases hst
theorem pt_lneg  : Tt1 E Y D G P Ws Wa Wp J m pc len T (.lneg) := by
  intro s ρ σ lv st l v L hT hD hG hJ hW1 hW2 d hf hln h hl hs hst k
  cases lenOf (a := 1) hln (by decide)
  simp only [step1, disp, s1_lneg] at hst
  split at hst
  · rename_i a st'
    obtain ⟨w1, v1, rfl, ha, hs2⟩ := hs.cons
    cases hc : a.isL with
    | false => rw [hc] at hst; cases hst
    | true =>
      rw [hc] at hst
      obtain ⟨x, rfl, hx⟩ := ha.long hc
      cases Option.some.inj hst
      obtain ⟨ρ', p1, p2, p3, p4⟩ := newL_ok (y := -x) h (in64 _)
      exact g_lneg hT ⟨d, rfl⟩ (k.one p1 p2 Fr.rf (hl.mono p1) ⟨Rv.of_long p3 p4, hs2.mono p1⟩)
  · cases hst
theorem pt_i2l  : Tt1 E Y D G P Ws Wa Wp J m pc len T (.i2l) := by
  intro s ρ σ lv st l v L hT hD hG hJ hW1 hW2 d hf hln h hl hs hst k
  cases lenOf (a := 1) hln (by decide)
  simp only [step1, disp, s1_i2l] at hst
  split at hst
  · rename_i a st'
    obtain ⟨w1, v1, rfl, ha, hs2⟩ := hs.cons
    cases hc : a.isI with
    | false => rw [hc] at hst; cases hst
    | true =>
      rw [hc] at hst
      obtain ⟨x, rfl, hx⟩ := ha.int hc
      cases Option.some.inj hst
      refine g_i2l hT ⟨d, rfl⟩ rfl (k.one Pre.rf h Fr.rf hl ⟨?_, hs2⟩)
      have e : x.toInt64.toInt = x.toInt := Int32.toInt_toInt64 x
      rcases a with ⟨id, o⟩ | n | ⟨_, _⟩ | _ | _ | ⟨_, _⟩
      · exact ⟨_, rfl, by rw [e]; exact hx⟩
      · exact ⟨_, rfl, by rw [e]; exact Option.some.inj hx⟩
      · cases hc
      · cases hc
      · cases hc
      · cases hc
  · cases hst
theorem pt_l2i  : Tt1 E Y D G P Ws Wa Wp J m pc len T (.l2i) := by
  intro s ρ σ lv st l v L hT hD hG hJ hW1 hW2 d hf hln h hl hs hst k
  cases lenOf (a := 1) hln (by decide)
  simp only [step1, disp, s1_l2i] at hst
  split at hst
  · rename_i a st'
    obtain ⟨w1, v1, rfl, ha, hs2⟩ := hs.cons
    cases hc : a.isL with
    | false => rw [hc] at hst; cases hst
    | true =>
      rw [hc] at hst
      obtain ⟨x, rfl, hx⟩ := ha.long hc
      cases Option.some.inj hst
      obtain ⟨ρ', p1, p2, p3, p4⟩ := l2i_ok h hc hx
      exact g_l2i hT ⟨d, rfl⟩ rfl (k.one p1 p2 Fr.rf (hl.mono p1) ⟨Rv.of_int p3 p4, hs2.mono p1⟩)
  · cases hst
theorem pt_i2b : Tt1 E Y D G P Ws Wa Wp J m pc len T (.i2b) := by
  intro s ρ σ lv st l v L hT hD hG hJ hW1 hW2 d hf hln h hl hs hst k
  cases lenOf (a := 1) hln (by decide)
  simp only [step1, disp, s1_i2b] at hst
  split at hst
  · rename_i a st'
    obtain ⟨w1, v1, rfl, ha, hs2⟩ := hs.cons
    cases hc9 : a.isI && dsub (dom s a) [(-128, 127)] with
    | true =>
      rw [hc9] at hst
      cases Option.some.inj hst
      rw [Bool.and_eq_true] at hc9
      obtain ⟨x, rfl, hx⟩ := ha.int hc9.1
      have h1 := inD_one (dsub_in hc9.2 (dom_i h hc9.1 hx))
      have e : x.toInt8.toInt32 = x := by
        apply Int32.toInt_inj.mp
        rw [Int8.toInt_toInt32, Int32.toInt_toInt8]
        rw [Int.bmod_def]
        split <;> omega
      exact g_i2b hT (v := x) ⟨d, rfl⟩ e (k.one Pre.rf h Fr.rf hl ⟨ha, hs2⟩)
    | false =>
    rw [hc9] at hst
    simp only [cond_false] at hst
    cases hc : a.isI with
    | false => rw [hc] at hst; cases hst
    | true =>
      rw [hc] at hst
      cases Option.some.inj hst
      obtain ⟨x, rfl, hx⟩ := ha.int hc
      obtain ⟨ρ', p1, p2, p3, p4⟩ := newI_ok (y := x.toInt8.toInt32) h (in32 _)
      exact g_i2b hT ⟨d, rfl⟩ rfl (k.one p1 p2 Fr.rf (hl.mono p1) ⟨Rv.of_int p3 p4, hs2.mono p1⟩)
  · cases hst
theorem pt_i2c  : Tt1 E Y D G P Ws Wa Wp J m pc len T (.i2c) := by
  intro s ρ σ lv st l v L hT hD hG hJ hW1 hW2 d hf hln h hl hs hst k
  cases lenOf (a := 1) hln (by decide)
  simp only [step1, disp, s1_i2c] at hst
  split at hst
  · rename_i a st'
    obtain ⟨w1, v1, rfl, ha, hs2⟩ := hs.cons
    cases hc : a.isI with
    | false => rw [hc] at hst; cases hst
    | true =>
      rw [hc] at hst
      obtain ⟨x, rfl, hx⟩ := ha.int hc
      cases hd : dsub (dom s a) [(0, 65535)] with
      | true =>
        rw [hd] at hst
        cases Option.some.inj hst
        have h1 := inD_one (dsub_in hd (dom_i h hc hx))
        refine g_i2c hT (v := x) ⟨d, rfl⟩ ?_ (k.one Pre.rf h Fr.rf hl ⟨ha, hs2⟩)
        exact (i2c_ok x).2 h1.1 h1.2
      | false =>
        rw [hd] at hst
        cases Option.some.inj hst
        obtain ⟨ρ', p1, p2, p3, p4⟩ := newI_ok (y := j_i2c x) h (i2c_ok x).1
        exact g_i2c hT ⟨d, rfl⟩ rfl (k.one p1 p2 Fr.rf (hl.mono p1) ⟨Rv.of_int p3 p4, hs2.mono p1⟩)
  · cases hst
theorem pt_pop  : Tt1 E Y D G P Ws Wa Wp J m pc len T (.pop) := by
  intro s ρ σ lv st l v L hT hD hG hJ hW1 hW2 d hf hln h hl hs hst k
  cases lenOf (a := 1) hln (by decide)
  simp only [step1, disp, s1_pop] at hst
  split at hst
  · rename_i a st'
    obtain ⟨w1, v1, rfl, ha, hs2⟩ := hs.cons
    cases hc : a.isI with
    | false => rw [hc] at hst; cases hst
    | true =>
      rw [hc] at hst
      obtain ⟨x, rfl, hx⟩ := ha.int hc
      cases Option.some.inj hst
      exact g_popi hT ⟨d, rfl⟩ (k.one Pre.rf h Fr.rf hl hs2)
  · cases hst
theorem pt_dup  : Tt1 E Y D G P Ws Wa Wp J m pc len T (.dup) := by
  intro s ρ σ lv st l v L hT hD hG hJ hW1 hW2 d hf hln h hl hs hst k
  cases lenOf (a := 1) hln (by decide)
  simp only [step1, disp, s1_dup] at hst
  split at hst
  · rename_i a st'
    obtain ⟨w1, v1, rfl, ha, hs2⟩ := hs.cons
    cases hc : a.isL with
    | true => rw [hc] at hst; cases hst
    | false =>
      rw [hc] at hst
      cases Option.some.inj hst
      have hk := k.one Pre.rf h Fr.rf hl (v' := w1 :: w1 :: v1) ⟨ha, ha, hs2⟩
      rcases a with ⟨id, o⟩ | n | ⟨id, o⟩ | n | q | ⟨b, n⟩
      · obtain ⟨y, rfl, -⟩ := ha; exact g_dupi hT ⟨d, rfl⟩ hk
      · obtain ⟨y, rfl, -⟩ := ha; exact g_dupi hT ⟨d, rfl⟩ hk
      · cases hc
      · cases hc
      · cases ha; exact g_dupr hT ⟨d, rfl⟩ hk
      · obtain ⟨y, rfl, -⟩ := ha; exact g_dupr hT ⟨d, rfl⟩ hk
  · cases hst
theorem pt_dup2  : Tt1 E Y D G P Ws Wa Wp J m pc len T (.dup2) := by
  intro s ρ σ lv st l v L hT hD hG hJ hW1 hW2 d hf hln h hl hs hst k
  cases lenOf (a := 1) hln (by decide)
  simp only [step1, disp, s1_dup2] at hst
  split at hst
  · rename_i a b st'
    obtain ⟨w1, v1, rfl, ha, hs1⟩ := hs.cons
    obtain ⟨w2, v2, rfl, hb, hs2⟩ := hs1.cons
    cases hc : a.isL with
    | true =>
      rw [hc] at hst
      cases Option.some.inj hst
      obtain ⟨x, rfl, hx⟩ := ha.long hc
      exact g_dup2l hT ⟨d, rfl⟩ (k.one Pre.rf h Fr.rf hl ⟨ha, ha, hb, hs2⟩)
    | false =>
      rw [hc] at hst
      simp only [cond_false] at hst
      cases hd : a.isI && (!(b.isL) && !(b.isI)) with
      | false => rw [hd] at hst; cases hst
      | true =>
        rw [hd] at hst
        cases Option.some.inj hst
        simp only [Bool.and_eq_true, Bool.not_eq_true'] at hd
        obtain ⟨x, rfl, hx⟩ := ha.int hd.1
        have hk := k.one Pre.rf h Fr.rf hl (v' := .int x :: w2 :: .int x :: w2 :: v2) ⟨ha, hb, ha, hb, hs2⟩
        rcases b with ⟨id, o⟩ | n | ⟨id, o⟩ | n | q | ⟨b, n⟩
        · cases hd.2.2
        · cases hd.2.2
        · cases hd.2.1
        · cases hd.2.1
        · cases hb; exact g_dup2ir hT ⟨d, rfl⟩ hk
        · obtain ⟨y, rfl, -⟩ := hb; exact g_dup2ir hT ⟨d, rfl⟩ hk
  · cases hst
theorem pt_ifz {c : Cm} {off : Int} : Tt1 E Y D G P Ws Wa Wp J m pc len T (.ifCond c off) := by
  intro s ρ σ lv st l v L hT hD hG hJ hW1 hW2 d hf hln h hl hs hst k
  cases lenOf (a := 3) hln (by decide)
  simp only [step1, disp, s1_ifCond] at hst
  split at hst
  · rename_i a st'
    obtain ⟨w1, v1, rfl, ha, hs2⟩ := hs.cons
    cases hc : a.isI with
    | false => rw [hc] at hst; cases hst
    | true =>
      rw [hc] at hst
      obtain ⟨x, rfl, hx⟩ := ha.int hc
      simp only [cond_true] at hst
      cases ht : tgt pc off with
      | none => rw [ht] at hst; cases hst
      | some t =>
        rw [ht] at hst
        cases Option.some.inj hst
        have hk := tbr_ok (y := (0 : Int32).toInt) h hx (by rfl) (dom_i h hc hx) (dom_i (a := .c 0) h rfl rfl) hl hs2 k
        cases c with
        | eq => exact g_if_eq hT ⟨d, tgt_ok ht, rfl⟩ (fun q => hk.1 (congrArg Int32.toInt q)) (fun q => hk.2 (fun e => q (Int32.toInt_inj.mp e)))
        | ne => exact g_if_ne hT ⟨d, tgt_ok ht, rfl⟩ (fun q => hk.1 (fun e => q (Int32.toInt_inj.mp e))) (fun q => hk.2 (fun e => e (congrArg Int32.toInt q)))
        | lt => exact g_if_lt hT ⟨d, tgt_ok ht, rfl⟩ (fun q => hk.1 (Int32.lt_iff_toInt_lt.mp q)) (fun q => hk.2 (fun e => q (Int32.lt_iff_toInt_lt.mpr e)))
        | ge => exact g_if_ge hT ⟨d, tgt_ok ht, rfl⟩ (fun q => hk.1 (Int32.le_iff_toInt_le.mp q)) (fun q => hk.2 (fun e => q (Int32.le_iff_toInt_le.mpr e)))
        | gt => exact g_if_gt hT ⟨d, tgt_ok ht, rfl⟩ (fun q => hk.1 (Int32.lt_iff_toInt_lt.mp q)) (fun q => hk.2 (fun e => q (Int32.lt_iff_toInt_lt.mpr e)))
        | le => exact g_if_le hT ⟨d, tgt_ok ht, rfl⟩ (fun q => hk.1 (Int32.le_iff_toInt_le.mp q)) (fun q => hk.2 (fun e => q (Int32.le_iff_toInt_le.mpr e)))
  · cases hst
theorem pt_icm {c : Cm} {off : Int} : Tt1 E Y D G P Ws Wa Wp J m pc len T (.if_icmp c off) := by
  intro s ρ σ lv st l v L hT hD hG hJ hW1 hW2 d hf hln h hl hs hst k
  cases lenOf (a := 3) hln (by decide)
  simp only [step1, disp, s1_if_icmp] at hst
  split at hst
  · rename_i b a st'
    obtain ⟨w1, v1, rfl, hb, hs1⟩ := hs.cons
    obtain ⟨w2, v2, rfl, ha, hs2⟩ := hs1.cons
    cases hc : a.isI && b.isI with
    | false => rw [hc] at hst; cases hst
    | true =>
      rw [hc] at hst
      simp only [Bool.and_eq_true] at hc
      obtain ⟨x, rfl, hx⟩ := ha.int hc.1
      obtain ⟨y, rfl, hy⟩ := hb.int hc.2
      simp only [cond_true] at hst
      cases ht : tgt pc off with
      | none => rw [ht] at hst; cases hst
      | some t =>
        rw [ht] at hst
        cases Option.some.inj hst
        have hk := tbr_ok h hx hy (dom_i h hc.1 hx) (dom_i h hc.2 hy) hl hs2 k
        cases c with
        | eq => exact g_icmp_eq hT ⟨d, tgt_ok ht, rfl⟩ (fun q => hk.1 (congrArg Int32.toInt q)) (fun q => hk.2 (fun e => q (Int32.toInt_inj.mp e)))
        | ne => exact g_icmp_ne hT ⟨d, tgt_ok ht, rfl⟩ (fun q => hk.1 (fun e => q (Int32.toInt_inj.mp e))) (fun q => hk.2 (fun e => e (congrArg Int32.toInt q)))
        | lt => exact g_icmp_lt hT ⟨d, tgt_ok ht, rfl⟩ (fun q => hk.1 (Int32.lt_iff_toInt_lt.mp q)) (fun q => hk.2 (fun e => q (Int32.lt_iff_toInt_lt.mpr e)))
        | ge => exact g_icmp_ge hT ⟨d, tgt_ok ht, rfl⟩ (fun q => hk.1 (Int32.le_iff_toInt_le.mp q)) (fun q => hk.2 (fun e => q (Int32.le_iff_toInt_le.mpr e)))
        | gt => exact g_icmp_gt hT ⟨d, tgt_ok ht, rfl⟩ (fun q => hk.1 (Int32.lt_iff_toInt_lt.mp q)) (fun q => hk.2 (fun e => q (Int32.lt_iff_toInt_lt.mpr e)))
        | le => exact g_icmp_le hT ⟨d, tgt_ok ht, rfl⟩ (fun q => hk.1 (Int32.le_iff_toInt_le.mp q)) (fun q => hk.2 (fun e => q (Int32.le_iff_toInt_le.mpr e)))
  · cases hst
theorem pt_go {off : Int} : Tt1 E Y D G P Ws Wa Wp J m pc len T (.goto off) := by
  intro s ρ σ lv st l v L hT hD hG hJ hW1 hW2 d hf hln h hl hs hst k
  cases lenOf (a := 3) hln (by decide)
  simp only [step1, disp, s1_goto] at hst
  cases ht : tgt pc off with
  | none => rw [ht] at hst; cases hst
  | some t =>
    rw [ht] at hst
    cases Option.some.inj hst
    exact g_goto hT ⟨d, tgt_ok ht, rfl⟩ (k.one Pre.rf h Fr.rf hl hs)
theorem pt_lcmp  : Tt1 E Y D G P Ws Wa Wp J m pc len T (.lcmp) := by
  intro s ρ σ lv st l v L hT hD hG hJ hW1 hW2 d hf hln h hl hs hst k
  cases lenOf (a := 1) hln (by decide)
  simp only [step1, disp, s1_lcmp] at hst
  split at hst
  · rename_i b a st'
    obtain ⟨w1, v1, rfl, hb, hs1⟩ := hs.cons
    obtain ⟨w2, v2, rfl, ha, hs2⟩ := hs1.cons
    cases hc : a.isL && b.isL with
    | false => rw [hc] at hst; cases hst
    | true =>
      rw [hc] at hst
      simp only [Bool.and_eq_true] at hc
      obtain ⟨x, rfl, hx⟩ := ha.long hc.1
      obtain ⟨y, rfl, hy⟩ := hb.long hc.2
      simp only [cond_true] at hst
      split at hst
      · rename_i c off n hcd
        cases ht : tgt (pc + 1) off with
        | none => rw [ht] at hst; cases hst
        | some t =>
          rw [ht] at hst
          cases Option.some.inj hst
          have hk := tbr_ok h hx hy (dom_l h hc.1 hx) (dom_l h hc.2 hy) hl hs2 k
          obtain ⟨d2, -, hn⟩ := hG.code _ _ _ _ hcd
          cases lenOf (a := 3) hn (by decide)
          refine g_lcmp hT ⟨d, rfl⟩ ?_
          have hq := cmp_ok (x := x) (y := y) c
          have e0 : (0 : Int32).toInt = 0 := by decide
          cases c with
          | eq => exact g_if_eq hT ⟨d2, tgt_ok ht, rfl⟩ (fun q => hk.1 (hq.mp (by have := congrArg Int32.toInt q; rw [e0] at this; exact this))) (fun q => hk.2 (fun e => q (by have := hq.mpr e; exact Int32.toInt_inj.mp (this.trans e0.symm))))
          | ne => exact g_if_ne hT ⟨d2, tgt_ok ht, rfl⟩ (fun q => hk.1 (hq.mp (by exact fun e => q (Int32.toInt_inj.mp (e.trans e0.symm))))) (fun q => hk.2 (fun e => hq.mpr e (by rw [q]; rfl)))
          | lt => exact g_if_lt hT ⟨d2, tgt_ok ht, rfl⟩ (fun q => hk.1 (hq.mp (by have := Int32.lt_iff_toInt_lt.mp q; rw [e0] at this; exact this))) (fun q => hk.2 (fun e => q (by have := hq.mpr e; exact Int32.lt_iff_toInt_lt.mpr (by rw [e0]; exact this))))
          | ge => exact g_if_ge hT ⟨d2, tgt_ok ht, rfl⟩ (fun q => hk.1 (hq.mp (by have := Int32.le_iff_toInt_le.mp q; rw [e0] at this; exact this))) (fun q => hk.2 (fun e => q (by have := hq.mpr e; exact Int32.le_iff_toInt_le.mpr (by rw [e0]; exact this))))
          | gt => exact g_if_gt hT ⟨d2, tgt_ok ht, rfl⟩ (fun q => hk.1 (hq.mp (by have := Int32.lt_iff_toInt_lt.mp q; rw [e0] at this; exact this))) (fun q => hk.2 (fun e => q (by have := hq.mpr e; exact Int32.lt_iff_toInt_lt.mpr (by rw [e0]; exact this))))
          | le => exact g_if_le hT ⟨d2, tgt_ok ht, rfl⟩ (fun q => hk.1 (hq.mp (by have := Int32.le_iff_toInt_le.mp q; rw [e0] at this; exact this))) (fun q => hk.2 (fun e => q (by have := hq.mpr e; exact Int32.le_iff_toInt_le.mpr (by rw [e0]; exact this))))
      · cases hst
  · cases hst
theorem pt_gf {x : Nat} : Tt1 E Y D G P Ws Wa Wp J m pc len T (.getfield x) := by
  intro s ρ σ lv st l v L hT hD hG hJ hW1 hW2 d hf hln h hl hs hst k
  cases lenOf (a := 3) hln (by decide)
  simp only [step1, disp, s1_getfield] at hst
  split at hst
  · rename_i kc st'
    obtain ⟨w1, v1, rfl, ha, hs2⟩ := hs.cons
    cases ha
    split at hst
    · rename_i ci j ty hfl
      obtain ⟨hj, fty, fin, hF, hF0, hF1, hF2⟩ := hG.fld m x ci j ty (Nat.le_of_ble_eq_true hf) hfl
      split at hst
      · rename_i cj kd t hkf
        obtain ⟨g1, g2, ⟨ll, g3, g4⟩, g5, g6⟩ := hG.kf _ _ _ _ _ hj hkf
        cases hb : Nat.beq ci cj with
        | false => rw [hb] at hst; cases hst
        | true =>
          rw [hb] at hst
          have hci := Nat.eq_of_beq_eq_true hb
          subst hci
          simp only [cond_true] at hst
          split at hst
          · cases Option.some.inj hst
            obtain ⟨ρ', p1, p2, p3, p4⟩ := rdI_ok (p := .c (j : Int)) h rfl (hJ.rd s ρ σ kc (.c (j : Int)) j h rfl (Or.inl ⟨g6, hj⟩))
            exact g_geti hT (okD_1 hD g1) hF g1 g3 g2 g4 ⟨d, rfl⟩ (k.one p1 p2 Fr.rf (hl.mono p1) ⟨Rv.of_int p3 p4, hs2.mono p1⟩)
          · cases Option.some.inj hst
            obtain ⟨ρ', p1, p2, p3, p4⟩ := rdL_ok (k := kc) (j := j) (p := .c (j : Int)) h rfl (hJ.rl s ρ σ kc (.c (j : Int)) j h rfl (Or.inl ⟨g6, hj⟩))
            exact g_getj hT (okD_1 hD g1) hF g1 g3 g2 g4 ⟨d, rfl⟩ (k.one p1 p2 Fr.rf (hl.mono p1) ⟨Rv.of_long p3 p4, hs2.mono p1⟩)
          · cases Option.some.inj hst
            exact g_getr hT hF g1 g3 g2 g4 (g5 rfl) ⟨d, rfl⟩ (k.one Pre.rf h Fr.rf hl ⟨rfl, hs2⟩)
          · cases hst
      · cases hst
    · split at hst
      · rename_i hlib
        cases hb : Nat.ble 1000 kc && Nat.blt kc 1021 with
        | false => rw [hb] at hst; cases hst
        | true =>
          rw [hb] at hst
          cases Option.some.inj hst
          rw [Bool.and_eq_true] at hb
          obtain ⟨i, rfl⟩ := Nat.exists_eq_add_of_le (Nat.le_of_ble_eq_true hb.1)
          have hi : i < 21 := by have := Nat.le_of_ble_eq_true hb.2; omega
          exact g_sgetc hT hi ((hG.fz m x 4 (Nat.le_of_ble_eq_true hf) hlib).2.2.1 rfl) ⟨d, rfl⟩ (k.one Pre.rf h Fr.rf hl ⟨⟨0, rfl, rfl⟩, hs2⟩)
      · rename_i hlib
        cases hb : Nat.ble 1000 kc && Nat.blt kc 1021 with
        | false => rw [hb] at hst; cases hst
        | true =>
          rw [hb] at hst
          cases Option.some.inj hst
          rw [Bool.and_eq_true] at hb
          obtain ⟨i, rfl⟩ := Nat.exists_eq_add_of_le (Nat.le_of_ble_eq_true hb.1)
          have hi : i < 21 := by have := Nat.le_of_ble_eq_true hb.2; omega
          exact g_sgetv hT hi ((hG.fz m x 5 (Nat.le_of_ble_eq_true hf) hlib).2.2.2.1 rfl) ⟨d, rfl⟩ (k.one Pre.rf h Fr.rf hl ⟨(show Value.ref (2000 + i) = Value.ref (1000 + i + 1000) from by rw [show 2000 + i = 1000 + i + 1000 by omega]), hs2⟩)
      · cases hst
  · cases hst
theorem pt_gs {x : Nat} : Tt1 E Y D G P Ws Wa Wp J m pc len T (.getstatic x) := by
  intro s ρ σ lv st l v L hT hD hG hJ hW1 hW2 d hf hln h hl hs hst k
  cases lenOf (a := 3) hln (by decide)
  simp only [step1, disp, s1_getstatic] at hst
  split at hst
  · rename_i hlib
    cases Option.some.inj hst
    exact g_getsC hT ((hG.fz m x 2 (Nat.le_of_ble_eq_true hf) hlib).1 rfl) ⟨d, rfl⟩ (k.one Pre.rf h Fr.rf hl ⟨⟨1, rfl, rfl⟩, hs⟩)
  · rename_i hlib
    cases Option.some.inj hst
    exact g_getsR hT ((hG.fz m x 3 (Nat.le_of_ble_eq_true hf) hlib).2.1 rfl) ⟨d, rfl⟩ (k.one Pre.rf h Fr.rf hl ⟨rfl, hs⟩)
  · cases hst
theorem pt_al9 : Tt1 E Y D G P Ws Wa Wp J m pc len T (.arraylength) := by
  intro s ρ σ lv st l v L hT hD hG hJ hW1 hW2 d hf hln h hl hs hst k
  cases lenOf (a := 1) hln (by decide)
  simp only [step1, disp, s1_arraylength] at hst
  split at hst
  · rename_i kc st'
    obtain ⟨w1, v1, rfl, ha, hs2⟩ := hs.cons
    cases ha
    cases hb : Nat.ble 2000 kc && Nat.blt kc 2021 with
    | false => rw [hb] at hst; cases hst
    | true =>
      rw [hb] at hst
      cases Option.some.inj hst
      rw [Bool.and_eq_true] at hb
      obtain ⟨i, rfl⟩ := Nat.exists_eq_add_of_le (Nat.le_of_ble_eq_true hb.1)
      have hi : i < 21 := by have := Nat.le_of_ble_eq_true hb.2; omega
      rw [Nat.add_sub_cancel_left] at k
      exact g_slen hT hi rfl ⟨d, rfl⟩ (k.one Pre.rf h Fr.rf hl ⟨⟨_, rfl, rfl⟩, hs2⟩)
  · cases hst
theorem pt_pf {x : Nat} : Tt1 E Y D G P Ws Wa Wp J m pc len T (.putfield x) := by
  intro s ρ σ lv st l v L hT hD hG hJ hW1 hW2 d hf hln h hl hs hst k
  cases lenOf (a := 3) hln (by decide)
  simp only [step1, disp, s1_putfield] at hst
  split at hst
  · rename_i a kc st'
    obtain ⟨w1, v1, rfl, ha, hs1⟩ := hs.cons
    obtain ⟨w2, v2, rfl, hb0, hs2⟩ := hs1.cons
    cases hb0
    split at hst
    · rename_i ci j ty hfl
      obtain ⟨hj, fty, fin, hF, hF0, hF1, hF2⟩ := hG.fld m x ci j ty (Nat.le_of_ble_eq_true hf) hfl
      split at hst
      · rename_i cj kd t hkf
        obtain ⟨g1, g2, ⟨ll, g3, g4⟩, g5, g6⟩ := hG.kf _ _ _ _ _ hj hkf
        cases hb : Nat.beq ci cj && Ws s kc (.c (j : Int)) with
        | false => rw [hb] at hst; cases hst
        | true =>
          rw [hb] at hst
          simp only [Bool.and_eq_true] at hb
          have hw : Wp kc j := hW1 kc (.c (j : Int)) j rfl hb.2
          have hci := Nat.eq_of_beq_eq_true hb.1
          subst hci
          simp only [cond_true] at hst
          split at hst
          · cases hc : a.isI with
            | false => rw [hc] at hst; cases hst
            | true =>
              rw [hc] at hst
              simp only [cond_true] at hst
              split at hst
              · rename_i s' hw'
                cases Option.some.inj hst
                obtain ⟨y, rfl, hy⟩ := ha.int hc
                obtain ⟨rfl, rfl⟩ := hF0 rfl
                exact g_puti hT (okD_2 hD g1) hF g1 g3 g2 g4 rfl rfl ⟨d, rfl⟩ (k.one Pre.rf (hJ.wi s ρ σ kc (.c (j : Int)) a j y s' h rfl (Or.inl ⟨g6, hj⟩) hc hy hw') (Fr.i hw) hl hs2)
              · cases hst
          · cases hc : a.isI && dsub (dom s a) [(0, 1)] with
            | false => rw [hc] at hst; cases hst
            | true =>
              rw [hc] at hst
              simp only [cond_true] at hst
              split at hst
              · rename_i s' hw'
                cases Option.some.inj hst
                simp only [Bool.and_eq_true] at hc
                obtain ⟨y, rfl, hy⟩ := ha.int hc.1
                obtain ⟨rfl, rfl⟩ := hF1 rfl
                have hbo := j_bool (v := y) (is01 (dsub_in hc.2 (dom_i h hc.1 hy)))
                exact g_puti hT (okD_2 hD g1) hF g1 g3 g2 g4 hbo.1 hbo.2 ⟨d, rfl⟩ (k.one Pre.rf (hJ.wi s ρ σ kc (.c (j : Int)) a j y s' h rfl (Or.inl ⟨g6, hj⟩) hc.1 hy hw') (Fr.i hw) hl hs2)
              · cases hst
          · cases hc : a.isL with
            | false => rw [hc] at hst; cases hst
            | true =>
              rw [hc] at hst
              simp only [cond_true] at hst
              split at hst
              · rename_i s' hw'
                cases Option.some.inj hst
                obtain ⟨y, rfl, hy⟩ := ha.long hc
                obtain ⟨rfl, rfl⟩ := hF2 rfl
                exact g_putj hT (okD_2 hD g1) hF g1 g3 g2 g4 ⟨d, rfl⟩ (k.one Pre.rf (hJ.wl s ρ σ kc (.c (j : Int)) a j y s' h rfl (Or.inl ⟨g6, hj⟩) hc hy hw') (Fr.j hw) hl hs2)
              · cases hst
          · cases hst
      · cases hst
    · cases hst
  · cases hst
theorem pt_iald  : Tt1 E Y D G P Ws Wa Wp J m pc len T (.iaload) := by
  intro s ρ σ lv st l v L hT hD hG hJ hW1 hW2 d hf hln h hl hs hst k
  cases lenOf (a := 1) hln (by decide)
  simp only [step1, disp, s1_iaload] at hst
  split at hst
  · rename_i i kc st'
    obtain ⟨w1, v1, rfl, ha, hs1⟩ := hs.cons
    obtain ⟨w2, v2, rfl, hb0, hs2⟩ := hs1.cons
    cases hb0
    split at hst
    · rename_i z hka
      obtain ⟨g1, g2, g3⟩ := hG.ka _ _ _ hka
      cases hc : i.isI && inR s i 0 ((z : Int) - 1) with
      | false => rw [hc] at hst; cases hst
      | true =>
        rw [hc] at hst
        cases Option.some.inj hst
        simp only [Bool.and_eq_true] at hc
        obtain ⟨y, rfl, hy⟩ := ha.int hc.1
        have hr := inR_ok h hc.2 hy (dom_i h hc.1 hy)
        obtain ⟨q1, q2, q3⟩ := in_zr hr
        have hp := (pl_ok h hc.1 hy).trans (congrArg some q3.symm)
        have hcl := clip_ok h hc.1 hy hr
        obtain ⟨ρ', p1, p2, p3, p4⟩ := rdI_ok (k := kc) (p := pl s i) hcl hp (hJ.rd _ ρ σ kc (pl s i) _ hcl hp (Or.inr ⟨_, _, hka, q2⟩))
        exact g_iald hT (okD_2 hD g1) g1 g2 q1 ⟨d, rfl⟩ (k.one p1 p2 Fr.rf (hl.mono p1) ⟨Rv.of_int p3 p4, hs2.mono p1⟩)
    · cases hst
    · cases hc : Nat.beq kc 3001 && (i.isI && inR s i 0 3) with
      | false => rw [hc] at hst; cases hst
      | true =>
        rw [hc] at hst
        cases Option.some.inj hst
        simp only [Bool.and_eq_true] at hc
        have hk := Nat.eq_of_beq_eq_true hc.1
        subst hk
        obtain ⟨y, rfl, hy⟩ := ha.int hc.2.1
        have hr := inR_ok h hc.2.2 hy (dom_i h hc.2.1 hy)
        obtain ⟨q1, q2, q3⟩ := in_zr (z := 4) (y := y) ⟨hr.1, by omega⟩
        obtain ⟨ρ', p1, p2, p3, p4⟩ := newI_ok (y := RNK.getD y.toNatClampNeg 0) h (rnk_in _ q2)
        exact g_rald hT q1 ⟨d, rfl⟩ (k.one p1 p2 Fr.rf (hl.mono p1) ⟨Rv.of_int p3 p4, hs2.mono p1⟩)
  · cases hst
theorem pt_zald  : Tt1 E Y D G P Ws Wa Wp J m pc len T (.baload) := by
  intro s ρ σ lv st l v L hT hD hG hJ hW1 hW2 d hf hln h hl hs hst k
  cases lenOf (a := 1) hln (by decide)
  simp only [step1, disp, s1_baload] at hst
  split at hst
  · rename_i i kc st'
    obtain ⟨w1, v1, rfl, ha, hs1⟩ := hs.cons
    obtain ⟨w2, v2, rfl, hb0, hs2⟩ := hs1.cons
    cases hb0
    split at hst
    · rename_i z hka
      obtain ⟨g1, g2, g3⟩ := hG.ka _ _ _ hka
      cases hc : i.isI && inR s i 0 ((z : Int) - 1) with
      | false => rw [hc] at hst; cases hst
      | true =>
        rw [hc] at hst
        cases Option.some.inj hst
        simp only [Bool.and_eq_true] at hc
        obtain ⟨y, rfl, hy⟩ := ha.int hc.1
        have hr := inR_ok h hc.2 hy (dom_i h hc.1 hy)
        obtain ⟨q1, q2, q3⟩ := in_zr hr
        have hp := (pl_ok h hc.1 hy).trans (congrArg some q3.symm)
        have hcl := clip_ok h hc.1 hy hr
        obtain ⟨ρ', p1, p2, p3, p4⟩ := rdI_ok (k := kc) (p := pl s i) hcl hp (hJ.rd _ ρ σ kc (pl s i) _ hcl hp (Or.inr ⟨_, _, hka, q2⟩))
        exact g_zald hT (okD_2 hD g1) g1 g2 q1 ⟨d, rfl⟩ (k.one p1 p2 Fr.rf (hl.mono p1) ⟨Rv.of_int p3 p4, hs2.mono p1⟩)
    · cases hst
    · cases hc : (Nat.ble 2000 kc && Nat.blt kc 2021) && (i.isI && inR s i 0 (((SLN.getD (kc - 2000) 0 : Nat) : Int) - 1)) with
      | false => rw [hc] at hst; cases hst
      | true =>
        rw [hc] at hst
        simp only [Bool.and_eq_true] at hc
        obtain ⟨i2, rfl⟩ := Nat.exists_eq_add_of_le (Nat.le_of_ble_eq_true hc.1.1)
        have hi : i2 < 21 := by have := Nat.le_of_ble_eq_true hc.1.2; omega
        rw [Nat.add_sub_cancel_left] at hc hst
        obtain ⟨y, rfl, hy⟩ := ha.int hc.2.1
        have hr := inR_ok h hc.2.2 hy (dom_i h hc.2.1 hy)
        obtain ⟨q1, q2, q3⟩ := in_zr hr
        have hp := pl_ok h hc.2.1 hy
        simp only [cond_true] at hst
        split at hst
        · rename_i j hj
          cases Option.some.inj hst
          rw [hj] at hp
          have e : ((j : Nat) : Int) = y.toInt := Option.some.inj hp
          have e2 : y.toNatClampNeg = j := by omega
          rw [← e2] at k
          exact g_sald hT hi q1 ⟨d, rfl⟩ (k.one Pre.rf h Fr.rf hl ⟨⟨_, rfl, rfl⟩, hs2⟩)
        · cases Option.some.inj hst
          obtain ⟨ρ', p1, p2, p3, p4⟩ := newI_ok (y := (SBY.getD i2 []).getD y.toNatClampNeg 0) h (sby_in hi q2)
          exact g_sald hT hi q1 ⟨d, rfl⟩ (k.one p1 p2 Fr.rf (hl.mono p1) ⟨Rv.of_int p3 p4, hs2.mono p1⟩)
  · cases hst
theorem pt_lald  : Tt1 E Y D G P Ws Wa Wp J m pc len T (.laload) := by
  intro s ρ σ lv st l v L hT hD hG hJ hW1 hW2 d hf hln h hl hs hst k
  cases lenOf (a := 1) hln (by decide)
  simp only [step1, disp, s1_laload] at hst
  split at hst
  · rename_i i kc st'
    obtain ⟨w1, v1, rfl, ha, hs1⟩ := hs.cons
    obtain ⟨w2, v2, rfl, hb0, hs2⟩ := hs1.cons
    cases hb0
    split at hst
    · rename_i z hka
      obtain ⟨g1, g2, g3⟩ := hG.ka _ _ _ hka
      cases hc : i.isI && inR s i 0 ((z : Int) - 1) with
      | false => rw [hc] at hst; cases hst
      | true =>
        rw [hc] at hst
        cases Option.some.inj hst
        simp only [Bool.and_eq_true] at hc
        obtain ⟨y, rfl, hy⟩ := ha.int hc.1
        have hr := inR_ok h hc.2 hy (dom_i h hc.1 hy)
        obtain ⟨q1, q2, q3⟩ := in_zr hr
        have hp := (pl_ok h hc.1 hy).trans (congrArg some q3.symm)
        have hcl := clip_ok h hc.1 hy hr
        obtain ⟨ρ', p1, p2, p3, p4⟩ := rdL_ok (k := kc) (p := pl s i) hcl hp (hJ.rl _ ρ σ kc (pl s i) _ hcl hp (Or.inr ⟨_, _, hka, q2⟩))
        exact g_lald hT (okD_2 hD g1) g1 g2 q1 ⟨d, rfl⟩ (k.one p1 p2 Fr.rf (hl.mono p1) ⟨Rv.of_long p3 p4, hs2.mono p1⟩)
    · cases hst
  · rename_i i b n st'
    obtain ⟨w1, v1, rfl, ha, hs1⟩ := hs.cons
    obtain ⟨w2, v2, rfl, hb0, hs2⟩ := hs1.cons
    obtain ⟨kc, rfl, hr1, hr2⟩ := hb0
    split at hst
    · rename_i z hka
      cases hc : (i.isI && rrz G z b n) && inR s i 0 ((z : Int) - 1) with
      | false => rw [hc] at hst; cases hst
      | true =>
        rw [hc] at hst
        cases Option.some.inj hst
        simp only [Bool.and_eq_true] at hc
        obtain ⟨g1, g2, g3⟩ := hG.ka _ _ _ (rrz_ok hc.1.2 hr1 hr2)
        obtain ⟨y, rfl, hy⟩ := ha.int hc.1.1
        obtain ⟨q1, q2, q3⟩ := in_zr (inR_ok h hc.2 hy (dom_i h hc.1.1 hy))
        obtain ⟨ρ', p1, p2, p3, p4⟩ := newL_ok (y := σ.2 kc y.toNatClampNeg) h (in64 _)
        exact g_lald hT (okD_2r hD hr1 hr2 g1) g1 g2 q1 ⟨d, rfl⟩ (k.one p1 p2 Fr.rf (hl.mono p1) ⟨Rv.of_long p3 p4, hs2.mono p1⟩)
    · cases hst
  · cases hst
theorem pt_iast  : Tt1 E Y D G P Ws Wa Wp J m pc len T (.iastore) := by
  intro s ρ σ lv st l v L hT hD hG hJ hW1 hW2 d hf hln h hl hs hst k
  cases lenOf (a := 1) hln (by decide)
  simp only [step1, disp, s1_iastore] at hst
  split at hst
  · rename_i a i kc st'
    obtain ⟨w0, v0, rfl, hv0, hs0⟩ := hs.cons
    obtain ⟨w1, v1, rfl, ha, hs1⟩ := hs0.cons
    obtain ⟨w2, v2, rfl, hb0, hs2⟩ := hs1.cons
    cases hb0
    split at hst
    · rename_i z hka
      obtain ⟨g1, g2, g3⟩ := hG.ka _ _ _ hka
      cases hc : (i.isI && a.isI) && (inR s i 0 ((z : Int) - 1) && Ws s kc (pl s i)) with
      | false => rw [hc] at hst; cases hst
      | true =>
        rw [hc] at hst
        simp only [cond_true] at hst
        split at hst
        · rename_i s' hw'
          cases Option.some.inj hst
          simp only [Bool.and_eq_true] at hc
          obtain ⟨y, rfl, hy⟩ := ha.int hc.1.1
          obtain ⟨x, rfl, hx⟩ := hv0.int hc.1.2
          have hr := inR_ok h hc.2.1 hy (dom_i h hc.1.1 hy)
          obtain ⟨q1, q2, q3⟩ := in_zr hr
          have hp := (pl_ok h hc.1.1 hy).trans (congrArg some q3.symm)
          have hw : Wp kc y.toNatClampNeg := hW1 kc (pl s i) _ hp hc.2.2
          have hcl := clip_ok h hc.1.1 hy hr
          have hok := hJ.wi _ ρ σ kc (pl s i) a _ x s' hcl hp (Or.inr ⟨_, _, hka, q2⟩) hc.1.2 hx hw'
          exact g_iast hT (okD_3 hD g1) g1 g2 q1 ⟨d, rfl⟩ (k.one Pre.rf hok (Fr.i hw) hl hs2)
        · cases hst
    · cases hst
  · cases hst
theorem pt_zast  : Tt1 E Y D G P Ws Wa Wp J m pc len T (.bastore) := by
  intro s ρ σ lv st l v L hT hD hG hJ hW1 hW2 d hf hln h hl hs hst k
  cases lenOf (a := 1) hln (by decide)
  simp only [step1, disp, s1_bastore] at hst
  split at hst
  · rename_i a i kc st'
    obtain ⟨w0, v0, rfl, hv0, hs0⟩ := hs.cons
    obtain ⟨w1, v1, rfl, ha, hs1⟩ := hs0.cons
    obtain ⟨w2, v2, rfl, hb0, hs2⟩ := hs1.cons
    cases hb0
    split at hst
    · rename_i z hka
      obtain ⟨g1, g2, g3⟩ := hG.ka _ _ _ hka
      cases hc : (i.isI && a.isI) && (inR s i 0 ((z : Int) - 1) && (dsub (dom s a) [(0, 1)] && Ws s kc (pl s i))) with
      | false => rw [hc] at hst; cases hst
      | true =>
        rw [hc] at hst
        simp only [cond_true] at hst
        split at hst
        · rename_i s' hw'
          cases Option.some.inj hst
          simp only [Bool.and_eq_true] at hc
          obtain ⟨y, rfl, hy⟩ := ha.int hc.1.1
          obtain ⟨x, rfl, hx⟩ := hv0.int hc.1.2
          have hr := inR_ok h hc.2.1 hy (dom_i h hc.1.1 hy)
          obtain ⟨q1, q2, q3⟩ := in_zr hr
          have hp := (pl_ok h hc.1.1 hy).trans (congrArg some q3.symm)
          have hw : Wp kc y.toNatClampNeg := hW1 kc (pl s i) _ hp hc.2.2.2
          have hcl := clip_ok h hc.1.1 hy hr
          have hok := hJ.wi _ ρ σ kc (pl s i) a _ x s' hcl hp (Or.inr ⟨_, _, hka, q2⟩) hc.1.2 hx hw'
          have hbo : vp_nar .boolean x = x := by
            rcases is01 (dsub_in hc.2.2.1 (dom_i h hc.1.2 hx)) with rfl | rfl <;> rfl
          refine g_zast hT (okD_3 hD g1) g1 g2 q1 ⟨d, rfl⟩ ?_
          rw [hbo]
          exact k.one Pre.rf hok (Fr.i hw) hl hs2
        · cases hst
    · cases hst
  · cases hst
theorem pt_last  : Tt1 E Y D G P Ws Wa Wp J m pc len T (.lastore) := by
  intro s ρ σ lv st l v L hT hD hG hJ hW1 hW2 d hf hln h hl hs hst k
  cases lenOf (a := 1) hln (by decide)
  simp only [step1, disp, s1_lastore] at hst
  split at hst
  · rename_i a i kc st'
    obtain ⟨w0, v0, rfl, hv0, hs0⟩ := hs.cons
    obtain ⟨w1, v1, rfl, ha, hs1⟩ := hs0.cons
    obtain ⟨w2, v2, rfl, hb0, hs2⟩ := hs1.cons
    cases hb0
    split at hst
    · rename_i z hka
      obtain ⟨g1, g2, g3⟩ := hG.ka _ _ _ hka
      cases hc : (i.isI && a.isL) && (inR s i 0 ((z : Int) - 1) && Ws s kc (pl s i)) with
      | false => rw [hc] at hst; cases hst
      | true =>
        rw [hc] at hst
        simp only [cond_true] at hst
        split at hst
        · rename_i s' hw'
          cases Option.some.inj hst
          simp only [Bool.and_eq_true] at hc
          obtain ⟨y, rfl, hy⟩ := ha.int hc.1.1
          obtain ⟨x, rfl, hx⟩ := hv0.long hc.1.2
          have hr := inR_ok h hc.2.1 hy (dom_i h hc.1.1 hy)
          obtain ⟨q1, q2, q3⟩ := in_zr hr
          have hp := (pl_ok h hc.1.1 hy).trans (congrArg some q3.symm)
          have hw : Wp kc y.toNatClampNeg := hW1 kc (pl s i) _ hp hc.2.2
          have hcl := clip_ok h hc.1.1 hy hr
          have hok := hJ.wl _ ρ σ kc (pl s i) a _ x s' hcl hp (Or.inr ⟨_, _, hka, q2⟩) hc.1.2 hx hw'
          exact g_last hT (okD_3 hD g1) g1 g2 q1 ⟨d, rfl⟩ (k.one Pre.rf hok (Fr.j hw) hl hs2)
        · cases hst
    · cases hst
  · rename_i a i b n st'
    obtain ⟨w0, v0, rfl, hv0, hs0⟩ := hs.cons
    obtain ⟨w1, v1, rfl, ha, hs1⟩ := hs0.cons
    obtain ⟨w2, v2, rfl, hb0, hs2⟩ := hs1.cons
    obtain ⟨kc, rfl, hr1, hr2⟩ := hb0
    split at hst
    · rename_i z hka
      cases hc : ((i.isI && a.isL) && (rrz G z b n && rrw Wa P.fr b n)) && inR s i 0 ((z : Int) - 1) with
      | false => rw [hc] at hst; cases hst
      | true =>
        rw [hc] at hst
        cases Option.some.inj hst
        simp only [Bool.and_eq_true] at hc
        have hkc := rrz_ok hc.1.2.1 hr1 hr2
        obtain ⟨g1, g2, g3⟩ := hG.ka _ _ _ hkc
        obtain ⟨y, rfl, hy⟩ := ha.int hc.1.1.1
        obtain ⟨x, rfl, hx⟩ := hv0.long hc.1.1.2
        obtain ⟨q1, q2, q3⟩ := in_zr (inR_ok h hc.2 hy (dom_i h hc.1.1.1 hy))
        have hw : Wp kc y.toNatClampNeg := hW2 kc _ (rrw_ok hc.1.2.2 hr1 hr2).1
        exact g_last hT (okD_3r hD hr1 hr2 g1) g1 g2 q1 ⟨d, rfl⟩ (k.one Pre.rf (kill_ok h hr1 hr2 (fun H q => hJ.fr H σ kc (vp_updL (σ.2 kc) _ x) (rrw_ok hc.1.2.2 hr1 hr2).2 q)) (Fr.j hw) hl hs2)
    · cases hst
  · cases hst
theorem pt_aald  : Tt1 E Y D G P Ws Wa Wp J m pc len T (.aaload) := by
  intro s ρ σ lv st l v L hT hD hG hJ hW1 hW2 d hf hln h hl hs hst k
  cases lenOf (a := 1) hln (by decide)
  simp only [step1, disp, s1_aaload] at hst
  split at hst
  · rename_i i kc st'
    obtain ⟨w1, v1, rfl, ha, hs1⟩ := hs.cons
    obtain ⟨w2, v2, rfl, hb0, hs2⟩ := hs1.cons
    cases hb0
    split at hst
    · rename_i z b n hka hkr
      obtain ⟨g1, g2, g3⟩ := hG.ka _ _ _ hka
      obtain ⟨z', hz', hr⟩ := hG.kr _ _ _ hkr
      have hzz : z' = z := by
        rw [hka] at hz'
        cases hz'
        rfl
      subst hzz
      cases hc : i.isI && inR s i 0 ((z' : Int) - 1) with
      | false => rw [hc] at hst; cases hst
      | true =>
        rw [hc] at hst
        cases Option.some.inj hst
        simp only [Bool.and_eq_true] at hc
        obtain ⟨y, rfl, hy⟩ := ha.int hc.1
        obtain ⟨q1, q2, q3⟩ := in_zr (inR_ok h hc.2 hy (dom_i h hc.1 hy))
        obtain ⟨q, r1, r2, r3⟩ := hr _ q2
        exact g_aald hT g1 g2 q1 r1 ⟨d, rfl⟩ (k.one Pre.rf h Fr.rf hl ⟨⟨q, rfl, r2, r3⟩, hs2⟩)
    · cases hst
  · cases hst
theorem pt_tsw {dd lo hi : Int} {offs0 : Array Int} : Tt1 E Y D G P Ws Wa Wp J m pc len T (.tableswitch dd lo hi offs0) := by
  intro s ρ σ lv st l v L hT hD hG hJ hW1 hW2 d hf hln h hl hs hst k
  simp only [step1, disp, s1_tableswitch] at hst
  split at hst
  · rename_i a st'
    obtain ⟨w1, v1, rfl, ha, hs2⟩ := hs.cons
    cases hc : a.isI with
    | false => rw [hc] at hst; cases hst
    | true =>
      rw [hc] at hst
      obtain ⟨x, rfl, hx⟩ := ha.int hc
      simp only [cond_true] at hst
      split at hst
      · rename_i t L0 ht hL
        cases hq : ile (lo + (offs0.toList.length : Int)) (hi + 1) && ile (hi + 1) (lo + (offs0.toList.length : Int)) with
        | false => rw [hq] at hst; cases hst
        | true =>
          rw [hq] at hst
          have hq := and_ile hq
          by_cases h1 : x.toInt < lo ∨ hi < x.toInt
          · obtain ⟨s', m1, m2⟩ := swd_ok (t := t) (lv := lv) (st := st') h hx (dom_i h hc hx) h1
            cases Option.some.inj hst
            exact g_tableOut hT d h1 (tgt_ok ht) (k _ (List.mem_append_left _ m1) ρ σ l v1 Pre.rf m2 Fr.rf hl hs2)
          · obtain ⟨off, t', s', r1, r2, r3, r4⟩ := tswGo_ok h hx (dom_i h hc hx) offs0.toList lo L0 hL (by omega) (by omega)
            cases Option.some.inj hst
            exact g_tableIn hT (off := off) d (by omega) (by omega) (by simpa using r1) (tgt_ok r2) (k _ (List.mem_append_right _ r3) ρ σ l v1 Pre.rf r4 Fr.rf hl hs2)
      · cases hst
  · cases hst
theorem pt_lsw {dd : Int} {ps0 : Array (Int × Int)} : Tt1 E Y D G P Ws Wa Wp J m pc len T (.lookupswitch dd ps0) := by
  intro s ρ σ lv st l v L hT hD hG hJ hW1 hW2 d hf hln h hl hs hst k
  simp only [step1, disp, s1_lookupswitch] at hst
  split at hst
  · rename_i a st'
    obtain ⟨w1, v1, rfl, ha, hs2⟩ := hs.cons
    cases hc : a.isI && (ps0.toList.zip (ps0.toList.drop 1)).all (fun (a, next) => decide (a.1 < next.1)) with
    | false => rw [hc] at hst; cases hst
    | true =>
      rw [hc] at hst
      simp only [Bool.and_eq_true] at hc
      obtain ⟨x, rfl, hx⟩ := ha.int hc.1
      simp only [cond_true] at hst
      cases ht : tgt pc dd with
      | none => rw [ht] at hst; cases hst
      | some t =>
        rw [ht] at hst
        obtain ⟨t', s', r1, r2, r3⟩ := lswGo_ok (d := dd) hc.1 hx ht ps0.toList s L h hst
        exact g_lookup hT (tgt := t') d hc.2 rfl r1 (k _ r2 ρ σ l v1 Pre.rf r3 Fr.rf hl hs2)
  · cases hst
theorem pt_iz {x : Nat} : Tt1 E Y D G P Ws Wa Wp J m pc len T (.invokestatic x) := by
  intro s ρ σ lv st l v L hT hD hG hJ hW1 hW2 d hf hln h hl hs hst k
  cases lenOf (a := 3) hln (by decide)
  simp only [step1, disp, s1_invokestatic] at hst
  split at hst
  · rename_i n dp k1 sp k0 st' hlib
    obtain ⟨w1, v1, rfl, h1, hs1⟩ := hs.cons
    obtain ⟨w2, v2, rfl, h2, hs2⟩ := hs1.cons
    obtain ⟨w3, v3, rfl, h3, hs3⟩ := hs2.cons
    obtain ⟨w4, v4, rfl, h4, hs4⟩ := hs3.cons
    obtain ⟨w5, v5, rfl, h5, hs5⟩ := hs4.cons
    cases h3
    cases h5
    split at hst
    · rename_i z0 z1 a0 a1
      cases hc : (copyOk s sp n z0 && copyOk s dp n z1) && ((P.cp k0 k1 && Wa k1) && Nat.ble (catl st') 8) with
      | false => rw [hc] at hst; cases hst
      | true =>
        rw [hc] at hst
        cases Option.some.inj hst
        simp only [Bool.and_eq_true] at hc
        obtain ⟨⟨c9, c8⟩, ⟨i4, i5⟩, i6⟩ := hc
        obtain ⟨i1, i2⟩ := copyOk_I c9
        obtain ⟨i3, -⟩ := copyOk_I c8
        obtain ⟨x1, rfl, e1⟩ := h1.int i2
        obtain ⟨x2, rfl, e2⟩ := h2.int i3
        obtain ⟨x4, rfl, e4⟩ := h4.int i1
        obtain ⟨m1, m2, m3⟩ := copyOk_ok h c9 e4 e1
        obtain ⟨m4, -, m5⟩ := copyOk_ok h c8 e2 e1
        obtain ⟨g1, g2, -⟩ := hG.ka _ _ _ a0
        obtain ⟨g3, g4, -⟩ := hG.ka _ _ _ a1
        obtain ⟨⟨c1, c2⟩, c3, c4⟩ := hG.copy m x (Nat.le_of_ble_eq_true hf) hlib
        have nn : ∀ q : Int32, 0 ≤ q.toInt → ¬ q < 0 ∧ ((q.toNatClampNeg : Nat) : Int) = q.toInt := fun q hq => ⟨fun e => by
          have := Int32.lt_iff_toInt_lt.mp e
          have e0 : (0 : Int32).toInt = 0 := by decide
          omega, by
          show ((q.toInt.toNat : Nat) : Int) = q.toInt
          omega⟩
        obtain ⟨n1, n2⟩ := nn x1 (by omega)
        obtain ⟨n3, n4⟩ := nn x2 (by omega)
        obtain ⟨n5, n6⟩ := nn x4 (by omega)
        have hw : ∀ j, Wp k1 j := fun j => hW2 k1 j i5
        refine g_copyi hT (okD_5 hD g1) (okD_3 hD g3) c1 c2 c3 c4 g1 g3 g2 g4 ⟨n5, n3, n1, by omega, by omega⟩ (hG.rm m).1 (hG.rm m).2 ?_ ⟨d, rfl⟩ (k.one Pre.rf (forget_ok h (fun H q => hJ.cp H σ k0 k1 z0 z1 _ i4 a0 a1 q ?_)) (Fr.r hw) hl hs5)
        · rw [catl_ok hs5]
          exact Nat.le_of_ble_eq_true i6
        · intro j hj
          unfold va_cpy
          split
          · exact Or.inl ⟨_, by omega, rfl⟩
          · exact Or.inr rfl
    · rename_i z0 z1 a0 a1
      cases hc : (copyOk s sp n z0 && copyOk s dp n z1) && ((P.fr k1 && Wa k1) && Nat.ble (catl st') 8) with
      | false => rw [hc] at hst; cases hst
      | true =>
        rw [hc] at hst
        cases Option.some.inj hst
        simp only [Bool.and_eq_true] at hc
        obtain ⟨⟨c9, c8⟩, ⟨i4, i5⟩, i6⟩ := hc
        obtain ⟨i1, i2⟩ := copyOk_I c9
        obtain ⟨i3, -⟩ := copyOk_I c8
        obtain ⟨x1, rfl, e1⟩ := h1.int i2
        obtain ⟨x2, rfl, e2⟩ := h2.int i3
        obtain ⟨x4, rfl, e4⟩ := h4.int i1
        obtain ⟨m1, m2, m3⟩ := copyOk_ok h c9 e4 e1
        obtain ⟨m4, -, m5⟩ := copyOk_ok h c8 e2 e1
        obtain ⟨g1, g2, -⟩ := hG.ka _ _ _ a0
        obtain ⟨g3, g4, -⟩ := hG.ka _ _ _ a1
        obtain ⟨⟨c1, c2⟩, c3, c4⟩ := hG.copy m x (Nat.le_of_ble_eq_true hf) hlib
        have nn : ∀ q : Int32, 0 ≤ q.toInt → ¬ q < 0 ∧ ((q.toNatClampNeg : Nat) : Int) = q.toInt := fun q hq => ⟨fun e => by
          have := Int32.lt_iff_toInt_lt.mp e
          have e0 : (0 : Int32).toInt = 0 := by decide
          omega, by
          show ((q.toInt.toNat : Nat) : Int) = q.toInt
          omega⟩
        obtain ⟨n1, n2⟩ := nn x1 (by omega)
        obtain ⟨n3, n4⟩ := nn x2 (by omega)
        obtain ⟨n5, n6⟩ := nn x4 (by omega)
        have hw : ∀ j, Wp k1 j := fun j => hW2 k1 j i5
        refine g_copyl hT (okD_5 hD g1) (okD_3 hD g3) c1 c2 c3 c4 g1 g3 g2 g4 ⟨n5, n3, n1, by omega, by omega⟩ (hG.rm m).1 (hG.rm m).2 ?_ ⟨d, rfl⟩ (k.one Pre.rf (forgetL_ok h (fun H q => hJ.fr H σ k1 _ i4 q)) (Fr.rl hw) hl hs5)
        rw [catl_ok hs5]
        exact Nat.le_of_ble_eq_true i6
    · cases hst
  · rename_i b a st' hlib
    obtain ⟨w1, v1, rfl, hb, hs1⟩ := hs.cons
    obtain ⟨w2, v2, rfl, ha, hs2⟩ := hs1.cons
    cases hc : (a.isI && b.isI) && Nat.ble (catl st') 8 with
    | false => rw [hc] at hst; cases hst
    | true =>
      rw [hc] at hst
      cases Option.some.inj hst
      simp only [Bool.and_eq_true] at hc
      obtain ⟨x1, rfl, hx⟩ := ha.int hc.1.1
      obtain ⟨y1, rfl, hy⟩ := hb.int hc.1.2
      obtain ⟨c1, c2, c3, c4⟩ := (hG.fz m x 6 (Nat.le_of_ble_eq_true hf) hlib).2.2.2.2.1 rfl
      refine g_mmax hT c1 c2 c3 c4 (hG.rm m).1 (hG.rm m).2 (by rw [catl_ok hs2]; exact Nat.le_of_ble_eq_true hc.2) ⟨d, rfl⟩ ?_
      by_cases q : x1 < y1
      · rw [if_pos q]
        obtain ⟨s', e1, e2⟩ := Sy.cut_ok (c := .lt) h hx hy (dom_i h hc.1.1 hx) (dom_i h hc.1.2 hy) (Int32.lt_iff_toInt_lt.mp q)
        exact k (s', (pc + 3, (lv, b :: st'))) (List.mem_append_left _ (by rw [e1]; exact List.mem_cons_self ..)) ρ σ l _ Pre.rf e2 Fr.rf hl ⟨hb, hs2⟩
      · rw [if_neg q]
        obtain ⟨s', e1, e2⟩ := Sy.cut_ok (c := .ge) h hx hy (dom_i h hc.1.1 hx) (dom_i h hc.1.2 hy) (show y1.toInt ≤ x1.toInt from Int.not_lt.mp (fun e => q (Int32.lt_iff_toInt_lt.mpr e)))
        exact k (s', (pc + 3, (lv, a :: st'))) (List.mem_append_right _ (by rw [e1]; exact List.mem_cons_self ..)) ρ σ l _ Pre.rf e2 Fr.rf hl ⟨ha, hs2⟩
  · rename_i b a st' hlib
    obtain ⟨w1, v1, rfl, hb, hs1⟩ := hs.cons
    obtain ⟨w2, v2, rfl, ha, hs2⟩ := hs1.cons
    cases hc : (a.isI && b.isI) && Nat.ble (catl st') 8 with
    | false => rw [hc] at hst; cases hst
    | true =>
      rw [hc] at hst
      cases Option.some.inj hst
      simp only [Bool.and_eq_true] at hc
      obtain ⟨x1, rfl, hx⟩ := ha.int hc.1.1
      obtain ⟨y1, rfl, hy⟩ := hb.int hc.1.2
      obtain ⟨c1, c2, c3, c4⟩ := (hG.fz m x 7 (Nat.le_of_ble_eq_true hf) hlib).2.2.2.2.2 rfl
      refine g_mmin hT c1 c2 c3 c4 (hG.rm m).1 (hG.rm m).2 (by rw [catl_ok hs2]; exact Nat.le_of_ble_eq_true hc.2) ⟨d, rfl⟩ ?_
      by_cases q : y1 < x1
      · rw [if_pos q]
        obtain ⟨s', e1, e2⟩ := Sy.cut_ok (c := .gt) h hx hy (dom_i h hc.1.1 hx) (dom_i h hc.1.2 hy) (show y1.toInt < x1.toInt from Int32.lt_iff_toInt_lt.mp q)
        exact k (s', (pc + 3, (lv, b :: st'))) (List.mem_append_left _ (by rw [e1]; exact List.mem_cons_self ..)) ρ σ l _ Pre.rf e2 Fr.rf hl ⟨hb, hs2⟩
      · rw [if_neg q]
        obtain ⟨s', e1, e2⟩ := Sy.cut_ok (c := .le) h hx hy (dom_i h hc.1.1 hx) (dom_i h hc.1.2 hy) (show x1.toInt ≤ y1.toInt from Int.not_lt.mp (fun e => q (Int32.lt_iff_toInt_lt.mpr e)))
        exact k (s', (pc + 3, (lv, a :: st'))) (List.mem_append_right _ (by rw [e1]; exact List.mem_cons_self ..)) ρ σ l _ Pre.rf e2 Fr.rf hl ⟨ha, hs2⟩
  · cases hst
theorem tt1_all (ix : Ix) : Tt1 E Y D G P Ws Wa Wp J m pc len T ix := by
  cases ix
  case iconst n => exact pt_ic
  case bipush n => exact pt_bp
  case sipush n => exact pt_sp
  case ldc n => exact pt_ldc
  case ldc_w n => exact pt_ldcw
  case lconst n => exact pt_lc
  case ldc2_w n => exact pt_ldc2
  case iload_n n => exact pt_iln
  case iload n => exact pt_il
  case lload_n n => exact pt_lln
  case lload n => exact pt_ll
  case aload_n n => exact pt_aln
  case aload n => exact pt_al
  case istore_n n => exact pt_isn
  case istore n => exact pt_is
  case lstore_n n => exact pt_lsn
  case lstore n => exact pt_ls
  case astore_n n => exact pt_asn
  case iinc i z => exact pt_inc
  case iadd => exact pt_iadd
  case isub => exact pt_isub
  case imul => exact pt_imul
  case iand => exact pt_iand
  case ior => exact pt_ior
  case ixor => exact pt_ixor
  case ishl => exact pt_ishl
  case ishr => exact pt_ishr
  case iushr => exact pt_iushr
  case idiv => exact pt_idiv
  case irem => exact pt_irem
  case ladd => exact pt_ladd
  case lsub => exact pt_lsub
  case lmul => exact pt_lmul
  case land => exact pt_land
  case lor => exact pt_lor
  case lxor => exact pt_lxor
  case ldiv => exact pt_ldiv
  case lrem => exact pt_lrem
  case lshl => exact pt_lshl
  case lshr => exact pt_lshr
  case lushr => exact pt_lushr
  case ineg => exact pt_ineg
  case lneg => exact pt_lneg
  case i2l => exact pt_i2l
  case l2i => exact pt_l2i
  case i2c => exact pt_i2c
  case i2b => exact pt_i2b
  case lcmp => exact pt_lcmp
  case dup => exact pt_dup
  case dup2 => exact pt_dup2
  case pop => exact pt_pop
  case ifCond c o => exact pt_ifz
  case if_icmp c o => exact pt_icm
  case goto o => exact pt_go
  case tableswitch a b c o => exact pt_tsw
  case lookupswitch a b => exact pt_lsw
  case getfield x => exact pt_gf
  case getstatic x => exact pt_gs
  case arraylength => exact pt_al9
  case putfield x => exact pt_pf
  case iaload => exact pt_iald
  case baload => exact pt_zald
  case laload => exact pt_lald
  case aaload => exact pt_aald
  case iastore => exact pt_iast
  case bastore => exact pt_zast
  case lastore => exact pt_last
  case invokestatic x => exact pt_iz
  all_goals (intro s ρ σ lv st l v L hT hD hG hJ hW1 hW2 d hf hln h hl hs hst k; cases hst)
end P7
