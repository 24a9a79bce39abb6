noncomputable section
/-! ===== ENGINE 6: one theorem an instruction ===== -/
theorem lenOf {a n : Nat} (h : a = 0 ∨ a = n) (ha : a ≠ 0) : n = a := by
  rcases h with h | h
  · exact absurd h ha
  · exact h.symm
theorem rem_self {x y : Int64} (h1 : 0 ≤ x.toInt) (h2 : x.toInt < y.toInt) : x - x / y * y = x := by
  have hd : x / y = 0 := by
    apply Int64.toInt_inj.mp
    rw [Int64.toInt_div_of_ne_left _ _ (fun e => by
      have : Int64.minValue.toInt = -9223372036854775808 := by decide
      rw [e] at h1
      omega), Int.tdiv_eq_zero_of_lt h1 h2]
    decide
  rw [hd]
  simp
theorem is01 {y : Int32} (h : inD y.toInt [(0, 1)]) : y = 0 ∨ y = 1 := by
  have h1 := inD_one h
  have e0 : (0 : Int32).toInt = 0 := by decide
  have e1 : (1 : Int32).toInt = 1 := by decide
  rcases (by omega : y.toInt = 0 ∨ y.toInt = 1) with q | q
  · exact Or.inl (Int32.toInt_inj.mp (q.trans e0.symm))
  · exact Or.inr (Int32.toInt_inj.mp (q.trans e1.symm))
theorem lc_ok : ∀ n : Fin 2, ((n.val : Nat) : Int) = (Int64.ofNat n.val).toInt := by decide
section EZ
variable {E : xV} {Y : xY} {pc pc' : Nat} {lv : List (Nat × Value)} {st : List Value} {σ : zS} {K : zKt}
theorem z_aald {k z i' : Nat} {i : Int32} (hk : k < 215) (hd : KD k = (103, [z])) (hi : vp_in i z) (hr : RF k i.toNatClampNeg = i' + 1) (d : decode Y.2.1 pc = .ok (.aaload, 1) ∧ pc + 1 = pc') (kk : Wz E Y pc' lv (.ref i' :: st) σ K) : Wz E Y pc lv (.int i :: .ref k :: st) σ K := by
  obtain ⟨d, rfl⟩ := d
  exact x_aald hk hd hi hr d kk
end EZ
theorem rrz_ok {G : Gl} {z b : Nat} : ∀ {n k : Nat}, rrz G z b n = true → b ≤ k → k < b + n → G.ka.get k = some (101, z)
  | 0, k, _, h1, h2 => by omega
  | n + 1, k, h, h1, h2 => by
    unfold rrz at h
    rw [Bool.and_eq_true] at h
    by_cases hk : k = b + n
    · subst hk
      have h := h.1
      split at h
      · rename_i kd y e
        simp only [Bool.and_eq_true] at h
        rw [e, Nat.eq_of_beq_eq_true h.1, Nat.eq_of_beq_eq_true h.2]
      · cases h
    · exact rrz_ok h.2 h1 (by omega)
theorem rrw_ok {W fr : Nat → Bool} {b : Nat} : ∀ {n k : Nat}, rrw W fr b n = true → b ≤ k → k < b + n → W k = true ∧ fr k = true
  | 0, k, _, h1, h2 => by omega
  | n + 1, k, h, h1, h2 => by
    unfold rrw at h
    rw [Bool.and_eq_true] at h
    by_cases hk : k = b + n
    · subst hk
      rw [Bool.and_eq_true] at h
      exact h.1
    · exact rrw_ok h.2 h1 (by omega)
theorem kill_ok {J : Jt} {s : Sy} {ρ : List Int} {σ : zS} {b n k j : Nat} {x : Int64} (h : Ok J s ρ σ) (h1 : b ≤ k) (h2 : k < b + n) (hJ : ∀ H, J H σ → J H (zJ σ k j x)) : Ok J (s.kill b n) ρ (zJ σ k j x) := by
  obtain ⟨H, i1, i2⟩ := h.inv
  refine ⟨h.len, h.env, fun e he' => ?_, h.cg, h.df, h.fa, H, i1, hJ H i2⟩
  obtain ⟨h3, h4⟩ := List.mem_filter.mp he'
  obtain ⟨j', h5, h6⟩ := h.me e h3
  have hne : ¬ (e.1 = k ∧ j' = j) := by
    rintro ⟨q, -⟩
    simp only [Bool.or_eq_true, Bool.not_eq_true'] at h4
    rcases h4 with h4 | h4
    · have : Nat.ble b e.1 = true := Nat.ble_eq.mpr (by omega)
      rw [this] at h4
      cases h4
    · have := Nat.ble_eq.mp h4
      omega
  refine ⟨j', h5, ?_⟩
  rw [zJ_ne hne]
  exact h6
theorem zIr_ne {σ : zS} {k k' j : Nat} {f : Nat → Int32} (h : k' ≠ k) : (zIr σ k f).1 k' j = σ.1 k' j := by simp [zIr, xup, h]
theorem forget_ok {J : Jt} {s : Sy} {ρ : List Int} {σ : zS} {k : Nat} {f : Nat → Int32} (h : Ok J s ρ σ) (hJ : ∀ H, J H σ → J H (zIr σ k f)) : Ok J (s.forget k) ρ (zIr σ k f) := by
  have off : ∀ {q : Nat}, (!(Nat.beq q k)) = true → q ≠ k := fun h e => by rw [e, Nat.beq_refl] at h; cases h
  obtain ⟨H, i1, i2⟩ := h.inv
  refine ⟨h.len, h.env, fun e he => ?_, h.cg, h.df, h.fa, H, i1, hJ H i2⟩
  obtain ⟨h1, h2⟩ := List.mem_filter.mp he
  obtain ⟨j, h3, h4⟩ := h.me e h1
  refine ⟨j, h3, ?_⟩
  rw [zIr_ne (off h2)]
  exact h4
theorem zJr_ne {σ : zS} {k k' j : Nat} {f : Nat → Int64} (h : k' ≠ k) : (zJr σ k f).2 k' j = σ.2 k' j := by simp [zJr, xup, h]
theorem forgetL_ok {J : Jt} {s : Sy} {ρ : List Int} {σ : zS} {k : Nat} {f : Nat → Int64} (h : Ok J s ρ σ) (hJ : ∀ H, J H σ → J H (zJr σ k f)) : Ok J (s.forget k) ρ (zJr σ k f) := by
  have off : ∀ {q : Nat}, (!(Nat.beq q k)) = true → q ≠ k := fun h e => by rw [e, Nat.beq_refl] at h; cases h
  obtain ⟨H, i1, i2⟩ := h.inv
  refine ⟨h.len, h.env, fun e he => ?_, h.cg, h.df, h.fa, H, i1, hJ H i2⟩
  obtain ⟨h1, h2⟩ := List.mem_filter.mp he
  obtain ⟨j, h3, h4⟩ := h.me e h1
  refine ⟨j, h3, ?_⟩
  rw [zJr_ne (off h2)]
  exact h4
theorem Fr.rl {Wp : Nat → Nat → Prop} {σ : zS} {k : Nat} {f : Nat → Int64} (h : ∀ j, Wp k j) : Fr Wp σ (zJr σ k f) := by
  intro k' j' hw
  refine ⟨rfl, zJr_ne ?_⟩
  rintro rfl
  exact hw (h j')
theorem clip_ok {J : Jt} {s : Sy} {ρ : List Int} {σ : zS} {i : AV} {z : Nat} {y : Int32} (h : Ok J s ρ σ) (hi : i.isI = true) (hy : ev ρ i = some y.toInt) (hr : 0 ≤ y.toInt ∧ y.toInt ≤ (z : Int) - 1) : Ok J (s.clip i z) ρ σ := h.set hy (dup_in hr.2 (dfr_in hr.1 (dom_i h hi hy)))
theorem in_zr {y : Int32} {z : Nat} (hr : 0 ≤ y.toInt ∧ y.toInt ≤ (z : Int) - 1) : vp_in y z ∧ y.toNatClampNeg < z ∧ ((y.toNatClampNeg : Nat) : Int) = y.toInt := in_z ⟨_, List.mem_cons_self .., hr.1, hr.2⟩
theorem Fr.r {Wp : Nat → Nat → Prop} {σ : zS} {k : Nat} {f : Nat → Int32} (h : ∀ j, Wp k j) : Fr Wp σ (zIr σ k f) := by
  intro k' j' hw
  refine ⟨zIr_ne ?_, rfl⟩
  rintro rfl
  exact hw (h j')
theorem catl_ok {ρ : List Int} : ∀ {st : List AV} {v : List Value}, Rs ρ st v → (v.map fun v => v.category).sum = catl st
  | [], [], _ => rfl
  | p :: a, q :: l, ⟨h1, h2⟩ => by
    simp only [List.map_cons, List.sum_cons, catl]
    rw [h1.category, catl_ok h2]
  | [], _ :: _, q => q.elim
  | _ :: _, [], q => q.elim
theorem eqc {n : Int} {s : Sy} : inD n (dom s (.c n)) := ⟨_, List.mem_cons_self .., Int.le_refl _, Int.le_refl _⟩
theorem tswGo_ok {J : Jt} {s : Sy} {ρ : List Int} {σ : zS} {pc : Nat} {a : AV} {x : Int} {lv : List (Nat × AV)} {st : List AV} (h : Ok J s ρ σ) (hx : ev ρ a = some x) (hd : inD x (dom s a)) : ∀ (offs : List Int) (v : Int) (L : List Su), tswGo pc s a lv st v offs = some L → v ≤ x → x < v + offs.length → ∃ off t s', offs[(x - v).toNat]? = some off ∧ tgt pc off = some t ∧ (s', (t, (lv, st))) ∈ L ∧ Ok J s' ρ σ
  | [], v, L, _, h1, h2 => by simp at h2; omega
  | o :: r, v, L, hL, h1, h2 => by
    unfold tswGo at hL
    split at hL
    · rename_i t L0 ht hL0
      by_cases hv : x = v
      · subst hv
        obtain ⟨s', c1, c2⟩ := Sy.cut_ok (c := .eq) h hx (b := .c x) rfl hd eqc rfl
        rw [c1] at hL
        cases Option.some.inj hL
        exact ⟨o, t, s', by simp, ht, List.mem_cons_self .., c2⟩
      · simp only [List.length_cons] at h2
        obtain ⟨off, t', s', r1, r2, r3, r4⟩ := tswGo_ok h hx hd r (v + 1) L0 hL0 (by omega) (by omega)
        refine ⟨off, t', s', ?_, r2, ?_, r4⟩
        · rw [show (x - v).toNat = (x - (v + 1)).toNat + 1 by omega, List.getElem?_cons_succ]
          exact r1
        · split at hL
          · cases Option.some.inj hL
            exact List.mem_cons_of_mem _ r3
          · cases Option.some.inj hL
            exact r3
    · cases hL
theorem lswGo_ok {J : Jt} {ρ : List Int} {σ : zS} {pc td : Nat} {a : AV} {x : Int32} {d : Int} {lv : List (Nat × AV)} {st : List AV} (ha : a.isI = true) (hx : ev ρ a = some x.toInt) (htd : tgt pc d = some td) : ∀ (ps : List (Int × Int)) (s : Sy) (L : List Su), Ok J s ρ σ → lswGo pc a lv st td s ps = some L → ∃ (t : Nat) (s' : Sy), (pc : Int) + Op.lookupswitch.offset ps d x.toInt = (t : Int) ∧ (s', (t, (lv, st))) ∈ L ∧ Ok J s' ρ σ
  | [], s, L, h, hL => by
    cases Option.some.inj hL
    exact ⟨td, s, tgt_ok htd, List.mem_cons_self .., h⟩
  | p :: r, s, L, h, hL => by
    have hd := dom_i h ha hx
    unfold lswGo at hL
    split at hL
    · rename_i t L0 ht hL0
      rw [show p = (p.1, p.2) from rfl, Op.lookupswitch.offset_cons]
      by_cases hv : p.1 = x.toInt
      · obtain ⟨s', c1, c2⟩ := Sy.cut_ok (c := .eq) h hx (b := .c p.1) rfl hd eqc hv.symm
        rw [c1] at hL
        cases Option.some.inj hL
        rw [if_pos hv]
        exact ⟨t, s', tgt_ok ht, List.mem_cons_self .., c2⟩
      · obtain ⟨s1, c1, c2⟩ := Sy.cut_ok (c := .ne) h hx (b := .c p.1) rfl hd eqc (fun e => hv e.symm)
        rw [c1] at hL0
        obtain ⟨t', s', r1, r2, r3⟩ := lswGo_ok ha hx htd r s1 L0 c2 hL0
        rw [if_neg hv]
        refine ⟨t', s', r1, ?_, r3⟩
        split at hL
        · cases Option.some.inj hL
          exact List.mem_cons_of_mem _ r2
        · cases Option.some.inj hL
          exact r2
    · cases hL
theorem swd_ok {J : Jt} {s : Sy} {ρ : List Int} {σ : zS} {a : AV} {x : Int} {lo hi : Int} {t : Nat} {lv : List (Nat × AV)} {st : List AV} (h : Ok J s ρ σ) (hx : ev ρ a = some x) (hd : inD x (dom s a)) (h1 : x < lo ∨ hi < x) : ∃ s', (s', (t, (lv, st))) ∈ swd s a lo hi t lv st ∧ Ok J s' ρ σ := by
  unfold swd
  rcases h1 with h1 | h1
  · obtain ⟨s', c1, c2⟩ := Sy.cut_ok (c := .lt) h hx (b := .c lo) rfl hd eqc h1
    rw [c1]
    exact ⟨s', List.mem_append_left _ (List.mem_cons_self ..), c2⟩
  · obtain ⟨s', c1, c2⟩ := Sy.cut_ok (c := .gt) h hx (b := .c hi) rfl hd eqc h1
    rw [c1]
    exact ⟨s', List.mem_append_right _ (List.mem_cons_self ..), c2⟩
theorem pl_I {s : Sy} {a : AV} (ha : a.isI = true) : (pl s a).isI = true := by
  unfold pl
  split
  · rename_i x y _
    cases ile y x
    · exact ha
    · rfl
  · exact ha
theorem bm64' {n : Int} (h : -9223372036854775808 ≤ n ∧ n ≤ 9223372036854775807) : n.bmod (2 ^ 64) = n := bm64 h
theorem sumL_ok {J : Jt} {s : Sy} {ρ : List Int} {σ : zS} (h : Ok J s ρ σ) {a b : AV} {w x y : Int} {z : Int64} {d : Dom} (hx : ev ρ a = some x) (hy : ev ρ b = some y) (hd : inD (x + w * y) d) (hz : -9223372036854775808 ≤ x + w * y ∧ x + w * y ≤ 9223372036854775807 → z.toInt = x + w * y) : ∃ ρ', Pre ρ ρ' ∧ Ok J (s.sumL a b w d).1 ρ' σ ∧ (s.sumL a b w d).2.isL = true ∧ ev ρ' (s.sumL a b w d).2 = some z.toInt := by
  obtain ⟨u, a1, a2⟩ := nf_ok h hx
  obtain ⟨t, b1, b2⟩ := nf_ok h hy
  have hv := tlin_ok (w := w) b1 a1
  have hs : x + w * y = (u + w * t) + ((nf s a).2 + w * (nf s b).2) := by
    rw [a2, b2, Int.mul_add]
    omega
  unfold Sy.sumL
  cases h1 : fit64 d with
  | true =>
    simp only [cond_true]
    have hr : -9223372036854775808 ≤ x + w * y ∧ x + w * y ≤ 9223372036854775807 := by
      simp only [fit64, Bool.and_eq_true, ile_iff] at h1
      have := dlo_le hd
      have := le_dhi hd
      omega
    obtain ⟨ρ', g1, g2, g3, g4⟩ := lin_ok (lg := true) h hv hs hd
    exact ⟨ρ', g1, g2, g3.1, by rw [hz hr]; exact g4⟩
  | false =>
    simp only [cond_false]
    cases h2 : inS s (tlin w (nf s b).1 (nf s a).1) ((nf s a).2 + w * (nf s b).2) (-9223372036854775808) 9223372036854775807 with
    | true =>
      simp only [cond_true]
      have hr := inS_ok h h2 hv
      rw [← hs] at hr
      obtain ⟨ρ', g1, g2, g3, g4⟩ := lin_ok (lg := true) h hv hs (d := T64) ⟨_, List.mem_cons_self .., hr.1, hr.2⟩
      exact ⟨ρ', g1, g2, g3.1, by rw [hz hr]; exact g4⟩
    | false => exact newL_ok h (in64 z)
theorem copyOk_I {s : Sy} {p n : AV} {z : Nat} (h : copyOk s p n z = true) : p.isI = true ∧ n.isI = true := by
  simp only [copyOk, Bool.and_eq_true] at h
  exact h.1
theorem copyOk_ok {J : Jt} {s : Sy} {ρ : List Int} {σ : zS} {p n : AV} {z : Nat} {x y : Int32} (h : Ok J s ρ σ) (hc : copyOk s p n z = true) (hx : ev ρ p = some x.toInt) (hy : ev ρ n = some y.toInt) : 0 ≤ x.toInt ∧ 0 ≤ y.toInt ∧ x.toInt + y.toInt ≤ (z : Int) := by
  simp only [copyOk, Bool.and_eq_true, Bool.or_eq_true] at hc
  obtain ⟨⟨i1, i2⟩, h1, h2, h3⟩ := hc
  have d1 := dom_i h i1 hx
  have d2 := dom_i h i2 hy
  refine ⟨geA_ok h h1 hx d1, geA_ok h h2 hy d2, ?_⟩
  rcases h3 with h3 | h3
  · have := ile_iff.mp h3
    have := le_dhi d1
    have := le_dhi d2
    omega
  · obtain ⟨u, a1, a2⟩ := nf_ok h hx
    obtain ⟨w, b1, b2⟩ := nf_ok h hy
    have := leq_ok h h3 (tlin_ok (w := 1) b1 a1)
    omega
section E6
variable {E : xV} {Y : Nat → xY} {G : Gl} {P : Pl} {Ws : Sy → Nat → AV → Bool} {Wa : Nat → Bool} {Wp : Nat → Nat → Prop} {J : Jt} {m pc len : Nat} {K : zKt}
noncomputable def St1 (E : xV) (Y : Nat → xY) (G : Gl) (P : Pl) (Ws : Sy → Nat → AV → Bool) (Wa : Nat → Bool) (Wp : Nat → Nat → Prop) (J : Jt) (m pc len : Nat) (K : zKt) (ix : Ix) : Prop := ∀ (s : Sy) (ρ : List Int) (σ : zS) (lv : List (Nat × AV)) (st : List AV) (l : List (Nat × Value)) (v : List Value) (L : List Su), GOk Y G → POk G P J → (∀ k p j, ev ρ p = some ((j : Nat) : Int) → Ws s k p = true → Wp k j) → (∀ k j, Wa k = true → Wp k j) → decode (Y m).2.1 pc = .ok (enc ix, len) → ix.fits (Y m).2.2.1 = true → (ix.len = 0 ∨ ix.len = len) → Ok J s ρ σ → Rl ρ lv l → Rs ρ st v → step1 G P Ws Wa m ix pc (pc + len) s lv st = some L → Kk E Y Wp J m ρ σ K L → Wz E (Y m) pc l v σ K
theorem s_ic {n : Int} : St1 E Y G P Ws Wa Wp J m pc len K (.iconst n) := by
  intro s ρ σ lv st l v L hG hJ hW1 hW2 d hf hln h hl hs hst k
  cases lenOf (a := 1) hln (by decide)
  simp only [step1, disp, Option.some.injEq] at hst
  subst hst
  exact z_iconst ⟨d, rfl⟩ rfl (k.one Pre.rf h Fr.rf hl ⟨⟨_, rfl, (ofInt32 (by have := and_ile hf; omega)).symm⟩, hs⟩)
theorem s_bp {n : Int} : St1 E Y G P Ws Wa Wp J m pc len K (.bipush n) := by
  intro s ρ σ lv st l v L hG hJ hW1 hW2 d hf hln h hl hs hst k
  cases lenOf (a := 2) hln (by decide)
  simp only [step1, disp, Option.some.injEq] at hst
  subst hst
  exact z_bipush ⟨d, rfl⟩ rfl (k.one Pre.rf h Fr.rf hl ⟨⟨_, rfl, (ofInt8 (by have := and_ile hf; omega)).symm⟩, hs⟩)
theorem s_sp {n : Int} : St1 E Y G P Ws Wa Wp J m pc len K (.sipush n) := by
  intro s ρ σ lv st l v L hG hJ hW1 hW2 d hf hln h hl hs hst k
  cases lenOf (a := 3) hln (by decide)
  simp only [step1, disp, Option.some.injEq] at hst
  subst hst
  exact z_sipush ⟨d, rfl⟩ rfl (k.one Pre.rf h Fr.rf hl ⟨⟨_, rfl, (ofInt16 (by have := and_ile hf; omega)).symm⟩, hs⟩)
theorem s_ldc {x : Nat} : St1 E Y G P Ws Wa Wp J m pc len K (.ldc x) := by
  intro s ρ σ lv st l v L hG hJ hW1 hW2 d hf hln h hl hs hst k
  cases lenOf (a := 2) hln (by decide)
  simp only [step1, disp, s1_ldc] at hst
  split at hst
  · rename_i n hc
    cases Option.some.inj hst
    obtain ⟨w, h1, h2⟩ := hG.cst m x n (Nat.le_of_ble_eq_true hf) hc
    exact z_ldc ⟨d, rfl⟩ h2 (k.one Pre.rf h Fr.rf hl ⟨⟨w, rfl, h1.symm⟩, hs⟩)
  · split at hst
    · rename_i n hl2
      cases hb : Nat.ble 10 n with
      | false => rw [hb] at hst; cases hst
      | true =>
        rw [hb] at hst
        cases Option.some.inj hst
        obtain ⟨q, h1, h2, h3⟩ := hG.str m x n (Nat.le_of_ble_eq_true hf) hl2 (Nat.le_of_ble_eq_true hb)
        subst h3
        exact z_ldcS h1 h2 ⟨d, rfl⟩ (k.one Pre.rf h Fr.rf hl ⟨rfl, hs⟩)
    · cases hst
theorem v9_ldcw {p : Program} {l : Launch} {e : Env} {R : Room} {s : State} {m : MethodId} {args : Array Value} {below : List Frame} {meth : Method} {c : Code} {T : State} {locs : List Loc} {cells slots : Nat} (X : Stand p l e R s m args below meth c T locs cells slots) (hexec : p.tables.exec = Jvm.exec) {own text : String} {index q : Nat} (hown : s.vm.findClass own = some m.cls) (hconst : (Cond.stringRef own index text).before #[] s = true) (hev : (Term.string own index).eval #[] s none [] s = some (.ref q)) {g : JFrame} (hg : g.method = m) (hdg : decode c.code g.pc = .ok (.ldc_w index, 3)) :
    ∀ target, Steps p.tables e below (T.setTop { g with pc := g.pc + 3, stack := .ref q :: g.stack }) target → Steps p.tables e below (T.setTop g) target := by
  obtain ⟨k, cf, i, a', hk, hcf, hcp, -, hr, hev'⟩ := Cond.stringRef_spec hown hconst
  cases hev.symm.trans hev'
  obtain ⟨k', hk', he⟩ := X.warmed.alike.2.2 _ _ hk
  have hr' : k'.resolved[index]? = some (some (.string q)) := by
    rcases X.warmed.entry hk hk' index with h | ⟨h, -⟩
    · rw [h]; exact hr
    · rw [hr] at h; cases h
  intro target hrest
  subst hg
  jvm_step X.here [hexec, hdg, ldc_w.wp_string (e := e) (s := T) (f := g) X.here.top hk' (by rw [he]; exact hcf) hcp hr']
  exact hrest
theorem z_ldcwS {E : xV} {Y : xY} {pc pc' : Nat} {lv : List (Nat × Value)} {st : List Value} {σ : zS} {K : zKt} {i : Nat} {q : String × (Nat × String)} (hq : STR[i]? = some q) (hY : Y.1.cls = q.1) (d : decode Y.2.1 pc = .ok (.ldc_w q.2.1, 3) ∧ pc + 3 = pc') (k : Wz E Y pc' lv (.ref (1000 + i) :: st) σ K) : Wz E Y pc lv st σ K := by
  obtain ⟨d, rfl⟩ := d
  intro p e R s m args below meth c H locs ls a0 n0 a hC hn hg hH hS hl
  have h := k p e R s m args below meth c H locs ls a0 n0 a hC hn hg hH hS hl
  have e1 : (Value.ref (1000 + i) :: st).map (xrel a) = Value.ref (E.2.2.2.1 i) :: st.map (xrel a) := by
    simp only [List.map_cons, xrel]
    rw [hH.2.2.2.1.2 i]
  rw [e1] at h
  intro T hT X
  obtain ⟨t, a1, b1⟩ := h T hT X
  have hz := hC.2.2.2.2.2.2.2.2.1.2.1 i q hq
  exact ⟨t, v9_ldcw X hC.1 (hY ▸ hC.2.2.2.2.1) hz.1 hz.2 (g := F0 m pc ls (st.map (xrel a))) rfl (by rw [hC.2.1]; exact d) t a1, b1⟩
theorem s_ldcw {x : Nat} : St1 E Y G P Ws Wa Wp J m pc len K (.ldc_w x) := by
  intro s ρ σ lv st l v L hG hJ hW1 hW2 d hf hln h hl hs hst k
  cases lenOf (a := 3) hln (by decide)
  simp only [step1, disp, s1_ldc_w] at hst
  split at hst
  · rename_i n hc
    cases Option.some.inj hst
    obtain ⟨w, h1, h2⟩ := hG.cst m x n (Nat.le_of_ble_eq_true hf) hc
    exact z_ldcw ⟨d, rfl⟩ h2 (k.one Pre.rf h Fr.rf hl ⟨⟨w, rfl, h1.symm⟩, hs⟩)
  · split at hst
    · rename_i n hl2
      cases hb : Nat.ble 10 n with
      | false => rw [hb] at hst; cases hst
      | true =>
        rw [hb] at hst
        cases Option.some.inj hst
        obtain ⟨q, h1, h2, h3⟩ := hG.str m x n (Nat.le_of_ble_eq_true hf) hl2 (Nat.le_of_ble_eq_true hb)
        subst h3
        exact z_ldcwS h1 h2 ⟨d, rfl⟩ (k.one Pre.rf h Fr.rf hl ⟨rfl, hs⟩)
    · cases hst
theorem s_lc {n : Fin 2} : St1 E Y G P Ws Wa Wp J m pc len K (.lconst n) := by
  intro s ρ σ lv st l v L hG hJ hW1 hW2 d hf hln h hl hs hst k
  cases lenOf (a := 1) hln (by decide)
  simp only [step1, disp, Option.some.injEq] at hst
  subst hst
  exact z_lconst ⟨d, rfl⟩ rfl (k.one Pre.rf h Fr.rf hl ⟨⟨_, rfl, lc_ok n⟩, hs⟩)
theorem s_ldc2 {x : Nat} : St1 E Y G P Ws Wa Wp J m pc len K (.ldc2_w x) := by
  intro s ρ σ lv st l v L hG hJ hW1 hW2 d hf hln h hl hs hst k
  cases lenOf (a := 3) hln (by decide)
  simp only [step1, disp, s1_ldc2_w] at hst
  split at hst
  · rename_i n hc
    cases Option.some.inj hst
    obtain ⟨w, h1, h2⟩ := hG.cstl m x n (Nat.le_of_ble_eq_true hf) hc
    exact z_ldc2 ⟨d, rfl⟩ h2 (k.one Pre.rf h Fr.rf hl ⟨⟨w, rfl, h1.symm⟩, hs⟩)
  · cases hst
theorem s_iln {i : Fin 4} : St1 E Y G P Ws Wa Wp J m pc len K (.iload_n i) := by
  intro s ρ σ lv st l v L hG hJ hW1 hW2 d hf hln h hl hs hst k
  cases lenOf (a := 1) hln (by decide)
  simp only [step1, disp, s1_iload_n] at hst
  split at hst
  · rename_i a hc
    cases ha : a.isI with
    | false => rw [ha] at hst; cases hst
    | true =>
      rw [ha] at hst
      cases Option.some.inj hst
      obtain ⟨q, w, h1, h2⟩ := lget_ok hl hc
      obtain ⟨y, rfl, h3⟩ := h2.int ha
      exact z_iload_n (q := q) ⟨d, rfl⟩ rfl h1 (k.one Pre.rf h Fr.rf hl ⟨Rv.of_int (pl_I ha) (pl_ok h ha h3), hs⟩)
  · cases hst
theorem s_il {i : Nat} : St1 E Y G P Ws Wa Wp J m pc len K (.iload i) := by
  intro s ρ σ lv st l v L hG hJ hW1 hW2 d hf hln h hl hs hst k
  cases lenOf (a := 2) hln (by decide)
  simp only [step1, disp, s1_iload] at hst
  split at hst
  · rename_i a hc
    cases ha : a.isI with
    | false => rw [ha] at hst; cases hst
    | true =>
      rw [ha] at hst
      cases Option.some.inj hst
      obtain ⟨q, w, h1, h2⟩ := lget_ok hl hc
      obtain ⟨y, rfl, h3⟩ := h2.int ha
      exact z_iload (q := q) ⟨d, rfl⟩ h1 (k.one Pre.rf h Fr.rf hl ⟨Rv.of_int (pl_I ha) (pl_ok h ha h3), hs⟩)
  · cases hst
theorem s_lln {i : Fin 4} : St1 E Y G P Ws Wa Wp J m pc len K (.lload_n i) := by
  intro s ρ σ lv st l v L hG hJ hW1 hW2 d hf hln h hl hs hst k
  cases lenOf (a := 1) hln (by decide)
  simp only [step1, disp, s1_lload_n] at hst
  split at hst
  · rename_i a hc
    cases ha : a.isL with
    | false => rw [ha] at hst; cases hst
    | true =>
      rw [ha] at hst
      cases Option.some.inj hst
      obtain ⟨q, w, h1, h2⟩ := lget_ok hl hc
      obtain ⟨y, rfl, h3⟩ := h2.long ha
      exact z_lload_n (q := q) ⟨d, rfl⟩ rfl h1 (k.one Pre.rf h Fr.rf hl ⟨h2, hs⟩)
  · cases hst
theorem s_ll {i : Nat} : St1 E Y G P Ws Wa Wp J m pc len K (.lload i) := by
  intro s ρ σ lv st l v L hG hJ hW1 hW2 d hf hln h hl hs hst k
  cases lenOf (a := 2) hln (by decide)
  simp only [step1, disp, s1_lload] at hst
  split at hst
  · rename_i a hc
    cases ha : a.isL with
    | false => rw [ha] at hst; cases hst
    | true =>
      rw [ha] at hst
      cases Option.some.inj hst
      obtain ⟨q, w, h1, h2⟩ := lget_ok hl hc
      obtain ⟨y, rfl, h3⟩ := h2.long ha
      exact z_lload (q := q) ⟨d, rfl⟩ h1 (k.one Pre.rf h Fr.rf hl ⟨h2, hs⟩)
  · cases hst
theorem s_aln {i : Fin 4} : St1 E Y G P Ws Wa Wp J m pc len K (.aload_n i) := by
  intro s ρ σ lv st l v L hG hJ hW1 hW2 d hf hln h hl hs hst k
  cases lenOf (a := 1) hln (by decide)
  simp only [step1, disp, s1_aload_n] at hst
  split at hst
  · rename_i q0 hc
    cases Option.some.inj hst
    obtain ⟨q, w, h1, h2⟩ := lget_ok hl hc
    cases h2
    exact z_aload_n (q := q) ⟨d, rfl⟩ rfl h1 (k.one Pre.rf h Fr.rf hl ⟨rfl, hs⟩)
  · rename_i b n hc
    cases Option.some.inj hst
    obtain ⟨q, w, h1, h2⟩ := lget_ok hl hc
    obtain ⟨x, rfl, h3⟩ := h2
    exact z_aload_n (q := q) ⟨d, rfl⟩ rfl h1 (k.one Pre.rf h Fr.rf hl ⟨⟨x, rfl, h3⟩, hs⟩)
  · cases hst
theorem s_al {i : Nat} : St1 E Y G P Ws Wa Wp J m pc len K (.aload i) := by
  intro s ρ σ lv st l v L hG hJ hW1 hW2 d hf hln h hl hs hst k
  cases lenOf (a := 2) hln (by decide)
  simp only [step1, disp, s1_aload] at hst
  split at hst
  · rename_i q0 hc
    cases Option.some.inj hst
    obtain ⟨q, w, h1, h2⟩ := lget_ok hl hc
    cases h2
    exact z_aload (q := q) ⟨d, rfl⟩ h1 (k.one Pre.rf h Fr.rf hl ⟨rfl, hs⟩)
  · rename_i b n hc
    cases Option.some.inj hst
    obtain ⟨q, w, h1, h2⟩ := lget_ok hl hc
    obtain ⟨x, rfl, h3⟩ := h2
    exact z_aload (q := q) ⟨d, rfl⟩ h1 (k.one Pre.rf h Fr.rf hl ⟨⟨x, rfl, h3⟩, hs⟩)
  · cases hst
theorem s_isn {i : Fin 4} : St1 E Y G P Ws Wa Wp J m pc len K (.istore_n i) := by
  intro s ρ σ lv st l v L hG hJ hW1 hW2 d hf hln h hl hs hst k
  cases lenOf (a := 1) hln (by decide)
  simp only [step1, disp, s1_istore_n] at hst
  split at hst
  · rename_i a st'
    obtain ⟨w, v', rfl, h1, h2⟩ := hs.cons
    cases ha : a.isI with
    | false => rw [ha] at hst; cases hst
    | true =>
      rw [ha] at hst
      cases Option.some.inj hst
      obtain ⟨y, rfl, h3⟩ := h1.int ha
      exact z_istore_n ⟨d, rfl⟩ rfl (Nat.le_of_ble_eq_true hf) rfl (k.one Pre.rf h Fr.rf ⟨⟨rfl, h1⟩, lput_1 hl⟩ h2)
  · cases hst
theorem s_is {i : Nat} : St1 E Y G P Ws Wa Wp J m pc len K (.istore i) := by
  intro s ρ σ lv st l v L hG hJ hW1 hW2 d hf hln h hl hs hst k
  cases lenOf (a := 2) hln (by decide)
  simp only [step1, disp, s1_istore] at hst
  split at hst
  · rename_i a st'
    obtain ⟨w, v', rfl, h1, h2⟩ := hs.cons
    cases ha : a.isI with
    | false => rw [ha] at hst; cases hst
    | true =>
      rw [ha] at hst
      cases Option.some.inj hst
      obtain ⟨y, rfl, h3⟩ := h1.int ha
      exact z_istore ⟨d, rfl⟩ (Nat.le_of_ble_eq_true hf) rfl (k.one Pre.rf h Fr.rf ⟨⟨rfl, h1⟩, lput_1 hl⟩ h2)
  · cases hst
theorem s_lsn {i : Fin 4} : St1 E Y G P Ws Wa Wp J m pc len K (.lstore_n i) := by
  intro s ρ σ lv st l v L hG hJ hW1 hW2 d hf hln h hl hs hst k
  cases lenOf (a := 1) hln (by decide)
  simp only [step1, disp, s1_lstore_n] at hst
  split at hst
  · rename_i a st'
    obtain ⟨w, v', rfl, h1, h2⟩ := hs.cons
    cases ha : a.isL with
    | false => rw [ha] at hst; cases hst
    | true =>
      rw [ha] at hst
      cases Option.some.inj hst
      obtain ⟨y, rfl, h3⟩ := h1.long ha
      exact z_lstore_n ⟨d, rfl⟩ rfl (Nat.le_of_ble_eq_true hf) rfl (k.one Pre.rf h Fr.rf ⟨⟨rfl, h1⟩, lput_2 hl⟩ h2)
  · cases hst
theorem s_ls {i : Nat} : St1 E Y G P Ws Wa Wp J m pc len K (.lstore i) := by
  intro s ρ σ lv st l v L hG hJ hW1 hW2 d hf hln h hl hs hst k
  cases lenOf (a := 2) hln (by decide)
  simp only [step1, disp, s1_lstore] at hst
  split at hst
  · rename_i a st'
    obtain ⟨w, v', rfl, h1, h2⟩ := hs.cons
    cases ha : a.isL with
    | false => rw [ha] at hst; cases hst
    | true =>
      rw [ha] at hst
      cases Option.some.inj hst
      obtain ⟨y, rfl, h3⟩ := h1.long ha
      exact z_lstore ⟨d, rfl⟩ (Nat.le_of_ble_eq_true hf) rfl (k.one Pre.rf h Fr.rf ⟨⟨rfl, h1⟩, lput_2 hl⟩ h2)
  · cases hst
theorem s_asn {i : Fin 4} : St1 E Y G P Ws Wa Wp J m pc len K (.astore_n i) := by
  intro s ρ σ lv st l v L hG hJ hW1 hW2 d hf hln h hl hs hst k
  cases lenOf (a := 1) hln (by decide)
  simp only [step1, disp, s1_astore_n] at hst
  split at hst
  · rename_i q st'
    obtain ⟨w, v', rfl, h1, h2⟩ := hs.cons
    cases Option.some.inj hst
    cases h1
    exact z_astore_n ⟨d, rfl⟩ rfl (Nat.le_of_ble_eq_true hf) rfl (k.one Pre.rf h Fr.rf ⟨⟨rfl, rfl⟩, lput_1 hl⟩ h2)
  · rename_i b n st'
    obtain ⟨w, v', rfl, h1, h2⟩ := hs.cons
    cases Option.some.inj hst
    obtain ⟨x, rfl, h3⟩ := h1
    exact z_astore_n ⟨d, rfl⟩ rfl (Nat.le_of_ble_eq_true hf) rfl (k.one Pre.rf h Fr.rf ⟨⟨rfl, ⟨x, rfl, h3⟩⟩, lput_1 hl⟩ h2)
  · cases hst
theorem s_inc {i : Nat} {z : Int} : St1 E Y G P Ws Wa Wp J m pc len K (.iinc i z) := by
  intro s ρ σ lv st l v L hG hJ hW1 hW2 d hf hln h hl hs hst k
  cases lenOf (a := 3) hln (by decide)
  simp only [step1, disp, s1_iinc] at hst
  have hf' := hf
  simp only [Ix.fits, Bool.and_eq_true, ile_iff] at hf'
  split at hst
  · rename_i a hc
    cases ha : a.isI with
    | false => rw [ha] at hst; cases hst
    | true =>
      rw [ha] at hst
      cases Option.some.inj hst
      obtain ⟨q, w, h1, h2⟩ := lget_ok hl hc
      obtain ⟨y, rfl, h3⟩ := h2.int ha
      obtain ⟨ρ', p1, p2, p3, p4⟩ := addc_ok (n := z) (z := y + Int32.ofInt z) h ha h3 (fun q => by
        have e := ofInt32 (n := z) (by omega)
        rw [i_add (by rw [e]; exact q), e])
      exact z_iinc (q := q) ⟨d, rfl⟩ h1 rfl (Nat.le_of_ble_eq_true hf'.1) rfl (k.one p1 p2 Fr.rf ⟨⟨rfl, Rv.of_int p3 p4⟩, lput_1 (hl.mono p1)⟩ (hs.mono p1))
  · cases hst
theorem s_iadd  : St1 E Y G P Ws Wa Wp J m pc len K (.iadd) := by
  intro s ρ σ lv st l v L hG hJ hW1 hW2 d hf hln h hl hs hst k
  cases lenOf (a := 1) hln (by decide)
  simp only [step1, disp, stBi] at hst
  split at hst
  · rename_i b a st'
    obtain ⟨w1, v1, rfl, hb, hs1⟩ := hs.cons
    obtain ⟨w2, v2, rfl, ha, hs2⟩ := hs1.cons
    cases hc : (a.isI && b.isI) && (!(isDiv .iadd) || nz (dom s b)) with
    | false => rw [hc] at hst; cases hst
    | true =>
      rw [hc] at hst
      cases Option.some.inj hst
      simp only [Bool.and_eq_true, Bool.or_eq_true, Bool.not_eq_true'] at hc
      obtain ⟨x, rfl, hx⟩ := ha.int hc.1.1
      obtain ⟨y, rfl, hy⟩ := hb.int hc.1.2
      obtain ⟨ρ', p1, p2, p3, p4⟩ := bi_ok (o := .iadd) h hc.1.1 hc.1.2 hx hy
      have hk := k.one p1 p2 Fr.rf (hl.mono p1) (v' := .int (Bo.i .iadd x y) :: v2) ⟨Rv.of_int p3 p4, hs2.mono p1⟩
      have hnz : isDiv .iadd = true → ¬ y = 0 := by
        intro ho e
        rcases hc.2 with q | q
        · rw [ho] at q; cases q
        · exact nz_ok q (by have := dom_i h hc.1.2 hy; rw [e] at this; exact this)
      exact z_iadd ⟨d, rfl⟩ hk
  · cases hst
theorem s_isub  : St1 E Y G P Ws Wa Wp J m pc len K (.isub) := by
  intro s ρ σ lv st l v L hG hJ hW1 hW2 d hf hln h hl hs hst k
  cases lenOf (a := 1) hln (by decide)
  simp only [step1, disp, stBi] at hst
  split at hst
  · rename_i b a st'
    obtain ⟨w1, v1, rfl, hb, hs1⟩ := hs.cons
    obtain ⟨w2, v2, rfl, ha, hs2⟩ := hs1.cons
    cases hc : (a.isI && b.isI) && (!(isDiv .isub) || nz (dom s b)) with
    | false => rw [hc] at hst; cases hst
    | true =>
      rw [hc] at hst
      cases Option.some.inj hst
      simp only [Bool.and_eq_true, Bool.or_eq_true, Bool.not_eq_true'] at hc
      obtain ⟨x, rfl, hx⟩ := ha.int hc.1.1
      obtain ⟨y, rfl, hy⟩ := hb.int hc.1.2
      obtain ⟨ρ', p1, p2, p3, p4⟩ := bi_ok (o := .isub) h hc.1.1 hc.1.2 hx hy
      have hk := k.one p1 p2 Fr.rf (hl.mono p1) (v' := .int (Bo.i .isub x y) :: v2) ⟨Rv.of_int p3 p4, hs2.mono p1⟩
      have hnz : isDiv .isub = true → ¬ y = 0 := by
        intro ho e
        rcases hc.2 with q | q
        · rw [ho] at q; cases q
        · exact nz_ok q (by have := dom_i h hc.1.2 hy; rw [e] at this; exact this)
      exact z_isub ⟨d, rfl⟩ hk
  · cases hst
theorem s_imul  : St1 E Y G P Ws Wa Wp J m pc len K (.imul) := by
  intro s ρ σ lv st l v L hG hJ hW1 hW2 d hf hln h hl hs hst k
  cases lenOf (a := 1) hln (by decide)
  simp only [step1, disp, stBi] at hst
  split at hst
  · rename_i b a st'
    obtain ⟨w1, v1, rfl, hb, hs1⟩ := hs.cons
    obtain ⟨w2, v2, rfl, ha, hs2⟩ := hs1.cons
    cases hc : (a.isI && b.isI) && (!(isDiv .imul) || nz (dom s b)) with
    | false => rw [hc] at hst; cases hst
    | true =>
      rw [hc] at hst
      cases Option.some.inj hst
      simp only [Bool.and_eq_true, Bool.or_eq_true, Bool.not_eq_true'] at hc
      obtain ⟨x, rfl, hx⟩ := ha.int hc.1.1
      obtain ⟨y, rfl, hy⟩ := hb.int hc.1.2
      obtain ⟨ρ', p1, p2, p3, p4⟩ := bi_ok (o := .imul) h hc.1.1 hc.1.2 hx hy
      have hk := k.one p1 p2 Fr.rf (hl.mono p1) (v' := .int (Bo.i .imul x y) :: v2) ⟨Rv.of_int p3 p4, hs2.mono p1⟩
      have hnz : isDiv .imul = true → ¬ y = 0 := by
        intro ho e
        rcases hc.2 with q | q
        · rw [ho] at q; cases q
        · exact nz_ok q (by have := dom_i h hc.1.2 hy; rw [e] at this; exact this)
      exact z_imul ⟨d, rfl⟩ hk
  · cases hst
theorem s_iand  : St1 E Y G P Ws Wa Wp J m pc len K (.iand) := by
  intro s ρ σ lv st l v L hG hJ hW1 hW2 d hf hln h hl hs hst k
  cases lenOf (a := 1) hln (by decide)
  simp only [step1, disp, stBi] at hst
  split at hst
  · rename_i b a st'
    obtain ⟨w1, v1, rfl, hb, hs1⟩ := hs.cons
    obtain ⟨w2, v2, rfl, ha, hs2⟩ := hs1.cons
    cases hc : (a.isI && b.isI) && (!(isDiv .iand) || nz (dom s b)) with
    | false => rw [hc] at hst; cases hst
    | true =>
      rw [hc] at hst
      cases Option.some.inj hst
      simp only [Bool.and_eq_true, Bool.or_eq_true, Bool.not_eq_true'] at hc
      obtain ⟨x, rfl, hx⟩ := ha.int hc.1.1
      obtain ⟨y, rfl, hy⟩ := hb.int hc.1.2
      obtain ⟨ρ', p1, p2, p3, p4⟩ := bi_ok (o := .iand) h hc.1.1 hc.1.2 hx hy
      have hk := k.one p1 p2 Fr.rf (hl.mono p1) (v' := .int (Bo.i .iand x y) :: v2) ⟨Rv.of_int p3 p4, hs2.mono p1⟩
      have hnz : isDiv .iand = true → ¬ y = 0 := by
        intro ho e
        rcases hc.2 with q | q
        · rw [ho] at q; cases q
        · exact nz_ok q (by have := dom_i h hc.1.2 hy; rw [e] at this; exact this)
      exact z_iand ⟨d, rfl⟩ hk
  · cases hst
theorem s_ior  : St1 E Y G P Ws Wa Wp J m pc len K (.ior) := by
  intro s ρ σ lv st l v L hG hJ hW1 hW2 d hf hln h hl hs hst k
  cases lenOf (a := 1) hln (by decide)
  simp only [step1, disp, stBi] at hst
  split at hst
  · rename_i b a st'
    obtain ⟨w1, v1, rfl, hb, hs1⟩ := hs.cons
    obtain ⟨w2, v2, rfl, ha, hs2⟩ := hs1.cons
    cases hc : (a.isI && b.isI) && (!(isDiv .ior) || nz (dom s b)) with
    | false => rw [hc] at hst; cases hst
    | true =>
      rw [hc] at hst
      cases Option.some.inj hst
      simp only [Bool.and_eq_true, Bool.or_eq_true, Bool.not_eq_true'] at hc
      obtain ⟨x, rfl, hx⟩ := ha.int hc.1.1
      obtain ⟨y, rfl, hy⟩ := hb.int hc.1.2
      obtain ⟨ρ', p1, p2, p3, p4⟩ := bi_ok (o := .ior) h hc.1.1 hc.1.2 hx hy
      have hk := k.one p1 p2 Fr.rf (hl.mono p1) (v' := .int (Bo.i .ior x y) :: v2) ⟨Rv.of_int p3 p4, hs2.mono p1⟩
      have hnz : isDiv .ior = true → ¬ y = 0 := by
        intro ho e
        rcases hc.2 with q | q
        · rw [ho] at q; cases q
        · exact nz_ok q (by have := dom_i h hc.1.2 hy; rw [e] at this; exact this)
      exact z_ior ⟨d, rfl⟩ hk
  · cases hst
theorem s_ixor  : St1 E Y G P Ws Wa Wp J m pc len K (.ixor) := by
  intro s ρ σ lv st l v L hG hJ hW1 hW2 d hf hln h hl hs hst k
  cases lenOf (a := 1) hln (by decide)
  simp only [step1, disp, stBi] at hst
  split at hst
  · rename_i b a st'
    obtain ⟨w1, v1, rfl, hb, hs1⟩ := hs.cons
    obtain ⟨w2, v2, rfl, ha, hs2⟩ := hs1.cons
    cases hc : (a.isI && b.isI) && (!(isDiv .ixor) || nz (dom s b)) with
    | false => rw [hc] at hst; cases hst
    | true =>
      rw [hc] at hst
      cases Option.some.inj hst
      simp only [Bool.and_eq_true, Bool.or_eq_true, Bool.not_eq_true'] at hc
      obtain ⟨x, rfl, hx⟩ := ha.int hc.1.1
      obtain ⟨y, rfl, hy⟩ := hb.int hc.1.2
      obtain ⟨ρ', p1, p2, p3, p4⟩ := bi_ok (o := .ixor) h hc.1.1 hc.1.2 hx hy
      have hk := k.one p1 p2 Fr.rf (hl.mono p1) (v' := .int (Bo.i .ixor x y) :: v2) ⟨Rv.of_int p3 p4, hs2.mono p1⟩
      have hnz : isDiv .ixor = true → ¬ y = 0 := by
        intro ho e
        rcases hc.2 with q | q
        · rw [ho] at q; cases q
        · exact nz_ok q (by have := dom_i h hc.1.2 hy; rw [e] at this; exact this)
      exact z_ixor ⟨d, rfl⟩ hk
  · cases hst
theorem s_ishl  : St1 E Y G P Ws Wa Wp J m pc len K (.ishl) := by
  intro s ρ σ lv st l v L hG hJ hW1 hW2 d hf hln h hl hs hst k
  cases lenOf (a := 1) hln (by decide)
  simp only [step1, disp, stBi] at hst
  split at hst
  · rename_i b a st'
    obtain ⟨w1, v1, rfl, hb, hs1⟩ := hs.cons
    obtain ⟨w2, v2, rfl, ha, hs2⟩ := hs1.cons
    cases hc : (a.isI && b.isI) && (!(isDiv .ishl) || nz (dom s b)) with
    | false => rw [hc] at hst; cases hst
    | true =>
      rw [hc] at hst
      cases Option.some.inj hst
      simp only [Bool.and_eq_true, Bool.or_eq_true, Bool.not_eq_true'] at hc
      obtain ⟨x, rfl, hx⟩ := ha.int hc.1.1
      obtain ⟨y, rfl, hy⟩ := hb.int hc.1.2
      obtain ⟨ρ', p1, p2, p3, p4⟩ := bi_ok (o := .ishl) h hc.1.1 hc.1.2 hx hy
      have hk := k.one p1 p2 Fr.rf (hl.mono p1) (v' := .int (Bo.i .ishl x y) :: v2) ⟨Rv.of_int p3 p4, hs2.mono p1⟩
      have hnz : isDiv .ishl = true → ¬ y = 0 := by
        intro ho e
        rcases hc.2 with q | q
        · rw [ho] at q; cases q
        · exact nz_ok q (by have := dom_i h hc.1.2 hy; rw [e] at this; exact this)
      exact z_ishl ⟨d, rfl⟩ hk
  · cases hst
theorem s_ishr  : St1 E Y G P Ws Wa Wp J m pc len K (.ishr) := by
  intro s ρ σ lv st l v L hG hJ hW1 hW2 d hf hln h hl hs hst k
  cases lenOf (a := 1) hln (by decide)
  simp only [step1, disp, stBi] at hst
  split at hst
  · rename_i b a st'
    obtain ⟨w1, v1, rfl, hb, hs1⟩ := hs.cons
    obtain ⟨w2, v2, rfl, ha, hs2⟩ := hs1.cons
    cases hc : (a.isI && b.isI) && (!(isDiv .ishr) || nz (dom s b)) with
    | false => rw [hc] at hst; cases hst
    | true =>
      rw [hc] at hst
      cases Option.some.inj hst
      simp only [Bool.and_eq_true, Bool.or_eq_true, Bool.not_eq_true'] at hc
      obtain ⟨x, rfl, hx⟩ := ha.int hc.1.1
      obtain ⟨y, rfl, hy⟩ := hb.int hc.1.2
      obtain ⟨ρ', p1, p2, p3, p4⟩ := bi_ok (o := .ishr) h hc.1.1 hc.1.2 hx hy
      have hk := k.one p1 p2 Fr.rf (hl.mono p1) (v' := .int (Bo.i .ishr x y) :: v2) ⟨Rv.of_int p3 p4, hs2.mono p1⟩
      have hnz : isDiv .ishr = true → ¬ y = 0 := by
        intro ho e
        rcases hc.2 with q | q
        · rw [ho] at q; cases q
        · exact nz_ok q (by have := dom_i h hc.1.2 hy; rw [e] at this; exact this)
      exact z_ishr ⟨d, rfl⟩ hk
  · cases hst
theorem s_iushr  : St1 E Y G P Ws Wa Wp J m pc len K (.iushr) := by
  intro s ρ σ lv st l v L hG hJ hW1 hW2 d hf hln h hl hs hst k
  cases lenOf (a := 1) hln (by decide)
  simp only [step1, disp, stBi] at hst
  split at hst
  · rename_i b a st'
    obtain ⟨w1, v1, rfl, hb, hs1⟩ := hs.cons
    obtain ⟨w2, v2, rfl, ha, hs2⟩ := hs1.cons
    cases hc : (a.isI && b.isI) && (!(isDiv .iushr) || nz (dom s b)) with
    | false => rw [hc] at hst; cases hst
    | true =>
      rw [hc] at hst
      cases Option.some.inj hst
      simp only [Bool.and_eq_true, Bool.or_eq_true, Bool.not_eq_true'] at hc
      obtain ⟨x, rfl, hx⟩ := ha.int hc.1.1
      obtain ⟨y, rfl, hy⟩ := hb.int hc.1.2
      obtain ⟨ρ', p1, p2, p3, p4⟩ := bi_ok (o := .iushr) h hc.1.1 hc.1.2 hx hy
      have hk := k.one p1 p2 Fr.rf (hl.mono p1) (v' := .int (Bo.i .iushr x y) :: v2) ⟨Rv.of_int p3 p4, hs2.mono p1⟩
      have hnz : isDiv .iushr = true → ¬ y = 0 := by
        intro ho e
        rcases hc.2 with q | q
        · rw [ho] at q; cases q
        · exact nz_ok q (by have := dom_i h hc.1.2 hy; rw [e] at this; exact this)
      exact z_iushr ⟨d, rfl⟩ rfl hk
  · cases hst
theorem s_idiv  : St1 E Y G P Ws Wa Wp J m pc len K (.idiv) := by
  intro s ρ σ lv st l v L hG hJ hW1 hW2 d hf hln h hl hs hst k
  cases lenOf (a := 1) hln (by decide)
  simp only [step1, disp, stBi] at hst
  split at hst
  · rename_i b a st'
    obtain ⟨w1, v1, rfl, hb, hs1⟩ := hs.cons
    obtain ⟨w2, v2, rfl, ha, hs2⟩ := hs1.cons
    cases hc : (a.isI && b.isI) && (!(isDiv .idiv) || nz (dom s b)) with
    | false => rw [hc] at hst; cases hst
    | true =>
      rw [hc] at hst
      cases Option.some.inj hst
      simp only [Bool.and_eq_true, Bool.or_eq_true, Bool.not_eq_true'] at hc
      obtain ⟨x, rfl, hx⟩ := ha.int hc.1.1
      obtain ⟨y, rfl, hy⟩ := hb.int hc.1.2
      obtain ⟨ρ', p1, p2, p3, p4⟩ := bi_ok (o := .idiv) h hc.1.1 hc.1.2 hx hy
      have hk := k.one p1 p2 Fr.rf (hl.mono p1) (v' := .int (Bo.i .idiv x y) :: v2) ⟨Rv.of_int p3 p4, hs2.mono p1⟩
      have hnz : isDiv .idiv = true → ¬ y = 0 := by
        intro ho e
        rcases hc.2 with q | q
        · rw [ho] at q; cases q
        · exact nz_ok q (by have := dom_i h hc.1.2 hy; rw [e] at this; exact this)
      exact z_idiv ⟨d, rfl⟩ (hnz rfl) hk
  · cases hst
theorem s_irem  : St1 E Y G P Ws Wa Wp J m pc len K (.irem) := by
  intro s ρ σ lv st l v L hG hJ hW1 hW2 d hf hln h hl hs hst k
  cases lenOf (a := 1) hln (by decide)
  simp only [step1, disp, stBi] at hst
  split at hst
  · rename_i b a st'
    obtain ⟨w1, v1, rfl, hb, hs1⟩ := hs.cons
    obtain ⟨w2, v2, rfl, ha, hs2⟩ := hs1.cons
    cases hc : (a.isI && b.isI) && (!(isDiv .irem) || nz (dom s b)) with
    | false => rw [hc] at hst; cases hst
    | true =>
      rw [hc] at hst
      cases Option.some.inj hst
      simp only [Bool.and_eq_true, Bool.or_eq_true, Bool.not_eq_true'] at hc
      obtain ⟨x, rfl, hx⟩ := ha.int hc.1.1
      obtain ⟨y, rfl, hy⟩ := hb.int hc.1.2
      obtain ⟨ρ', p1, p2, p3, p4⟩ := bi_ok (o := .irem) h hc.1.1 hc.1.2 hx hy
      have hk := k.one p1 p2 Fr.rf (hl.mono p1) (v' := .int (Bo.i .irem x y) :: v2) ⟨Rv.of_int p3 p4, hs2.mono p1⟩
      have hnz : isDiv .irem = true → ¬ y = 0 := by
        intro ho e
        rcases hc.2 with q | q
        · rw [ho] at q; cases q
        · exact nz_ok q (by have := dom_i h hc.1.2 hy; rw [e] at this; exact this)
      exact z_irem ⟨d, rfl⟩ (hnz rfl) hk
  · cases hst
theorem s_ladd  : St1 E Y G P Ws Wa Wp J m pc len K (.ladd) := by
  intro s ρ σ lv st l v L hG hJ hW1 hW2 d hf hln h hl hs hst k
  cases lenOf (a := 1) hln (by decide)
  simp only [step1, disp, s1_ladd] at hst
  split at hst
  · rename_i b a st'
    obtain ⟨w1, v1, rfl, hb, hs1⟩ := hs.cons
    obtain ⟨w2, v2, rfl, ha, hs2⟩ := hs1.cons
    cases hc : a.isL && b.isL with
    | false => rw [hc] at hst; cases hst
    | true =>
      rw [hc] at hst
      cases Option.some.inj hst
      simp only [Bool.and_eq_true] at hc
      obtain ⟨x, rfl, hx⟩ := ha.long hc.1
      obtain ⟨y, rfl, hy⟩ := hb.long hc.2
      have e : x.toInt + 1 * y.toInt = x.toInt + y.toInt := by omega
      obtain ⟨ρ', p1, p2, p3, p4⟩ := sumL_ok (w := 1) (d := dmm f_dadd (dom s a) (dom s b)) (z := x + y) h hx hy (by rw [e]; exact dmap2_in (fun p q _ _ _ _ => by unfold f_dadd; dsimp only; omega) (few_in (dom_l h hc.1 hx)) (few_in (dom_l h hc.2 hy))) (fun q => by rw [e] at q ⊢; rw [Int64.toInt_add, bm64 q])
      exact z_ladd ⟨d, rfl⟩ (k.one p1 p2 Fr.rf (hl.mono p1) ⟨Rv.of_long p3 p4, hs2.mono p1⟩)
  · cases hst
theorem s_lsub  : St1 E Y G P Ws Wa Wp J m pc len K (.lsub) := by
  intro s ρ σ lv st l v L hG hJ hW1 hW2 d hf hln h hl hs hst k
  cases lenOf (a := 1) hln (by decide)
  simp only [step1, disp, s1_lsub] at hst
  split at hst
  · rename_i b a st'
    obtain ⟨w1, v1, rfl, hb, hs1⟩ := hs.cons
    obtain ⟨w2, v2, rfl, ha, hs2⟩ := hs1.cons
    cases hc : a.isL && b.isL with
    | false => rw [hc] at hst; cases hst
    | true =>
      rw [hc] at hst
      cases Option.some.inj hst
      simp only [Bool.and_eq_true] at hc
      obtain ⟨x, rfl, hx⟩ := ha.long hc.1
      obtain ⟨y, rfl, hy⟩ := hb.long hc.2
      have e : x.toInt + (-1) * y.toInt = x.toInt - y.toInt := by omega
      obtain ⟨ρ', p1, p2, p3, p4⟩ := sumL_ok (w := (-1)) (d := dmm f_dsub (dom s a) (dom s b)) (z := x - y) h hx hy (by rw [e]; exact dmap2_in (fun p q _ _ _ _ => by unfold f_dsub; dsimp only; omega) (few_in (dom_l h hc.1 hx)) (few_in (dom_l h hc.2 hy))) (fun q => by rw [e] at q ⊢; rw [Int64.toInt_sub, bm64 q])
      exact z_lsub ⟨d, rfl⟩ (k.one p1 p2 Fr.rf (hl.mono p1) ⟨Rv.of_long p3 p4, hs2.mono p1⟩)
  · cases hst
theorem s_lmul  : St1 E Y G P Ws Wa Wp J m pc len K (.lmul) := by
  intro s ρ σ lv st l v L hG hJ hW1 hW2 d hf hln h hl hs hst k
  cases lenOf (a := 1) hln (by decide)
  simp only [step1, disp, stBl] at hst
  split at hst
  · rename_i b a st'
    obtain ⟨w1, v1, rfl, hb, hs1⟩ := hs.cons
    obtain ⟨w2, v2, rfl, ha, hs2⟩ := hs1.cons
    cases hcx : (a.isL && b.isL) && (lx .lmul s a b).isSome with
    | true =>
      rw [hcx] at hst
      simp only [cond_true] at hst
      rw [Bool.and_eq_true, Bool.and_eq_true] at hcx
      obtain ⟨x, rfl, hx⟩ := ha.long hcx.1.1
      obtain ⟨y, rfl, hy⟩ := hb.long hcx.1.2
      cases hr : lx .lmul s a b with
      | none => rw [hr] at hcx; cases hcx.2
      | some r =>
        rw [hr] at hst
        cases Option.some.inj hst
        obtain ⟨ρ', p1, p2, p3, p4⟩ := lxMul_ok h hcx.1.1 hx hy hr
        exact z_lmul ⟨d, rfl⟩ (k.one p1 p2 Fr.rf (hl.mono p1) ⟨Rv.of_long p3 p4, hs2.mono p1⟩)
    | false =>
    rw [hcx] at hst
    simp only [cond_false] at hst
    have hd0 : b.isL = true → ∀ y : Int64, ev ρ b = some y.toInt → nz (dom s b) = true → ¬ y = 0 := by
      intro q y hy hz e
      exact nz_ok hz (by have := dom_l h q hy; rw [e] at this; exact this)
    cases hc9 : (a.isL && b.isL) && (lspec .lmul a b (dom s a)).isSome with
    | true =>
      rw [hc9] at hst
      cases Option.some.inj hst
      rw [Bool.and_eq_true, Bool.and_eq_true] at hc9
      obtain ⟨⟨c1, c2⟩, c3⟩ := hc9
      obtain ⟨x, rfl, hx⟩ := ha.long c1
      obtain ⟨y, rfl, hy⟩ := hb.long c2
      obtain ⟨w, hw⟩ := Option.isSome_iff_exists.mp c3
      rw [hw] at k
      have ez : ∀ q : Int64, q.toInt = 0 → q = 0 := fun q hq => Int64.toInt_inj.mp (hq.trans (by decide))
      simp only [lspec] at hw
      cases hq : AV.eq a (.k 0) || AV.eq b (.k 0) with
      | false => rw [hq] at hw; cases hw
      | true =>
        rw [hq] at hw
        cases Option.some.inj hw
        rw [Bool.or_eq_true] at hq
        have hz : x * y = 0 := by
          rcases hq with hq | hq
          · rw [AV.eq_of hq] at hx
            rw [ez x (Option.some.inj hx).symm]
            simp
          · rw [AV.eq_of hq] at hy
            rw [ez y (Option.some.inj hy).symm]
            simp
        refine z_lmul ⟨d, rfl⟩ ?_
        rw [hz]
        exact k.one Pre.rf h Fr.rf hl ⟨⟨0, rfl, by decide⟩, hs2⟩
    | false =>
    rw [hc9] at hst
    simp only [cond_false] at hst
    cases hc : (a.isL && b.isL) && blOk .lmul s b with
    | false => rw [hc] at hst; cases hst
    | true =>
      rw [hc] at hst
      cases Option.some.inj hst
      simp only [Bool.and_eq_true] at hc
      obtain ⟨x, rfl, hx⟩ := ha.long hc.1.1
      obtain ⟨y, rfl, hy⟩ := hb.long hc.1.2
      obtain ⟨ρ', p1, p2, p3, p4⟩ := newL_ok (y := x * y) h (in64 _)
      exact z_lmul ⟨d, rfl⟩ (k.one p1 p2 Fr.rf (hl.mono p1) ⟨Rv.of_long p3 p4, hs2.mono p1⟩)
  · cases hst
theorem land_in {ρ : List Int} {a b : AV} {x y : Int64} (ha : a.isL = true) (hb : b.isL = true) (hx : ev ρ a = some x.toInt) (hy : ev ρ b = some y.toInt) : inD (x &&& y).toInt (lbd .land a b) := by
  have key : ∀ {u w : Int64} {n : Int}, n = w.toInt → ile 0 n = true → inD (u &&& w).toInt [(0, n)] := by
    intro u w n e hn
    have := and_between64 (x := u) (y := w) (by rw [← e]; exact ile_iff.mp hn)
    exact ⟨_, List.mem_cons_self .., this.1, by rw [e]; exact this.2⟩
  simp only [lbd]
  split
  · rename_i n
    cases hn : ile 0 n with
    | false => exact in64 _
    | true => exact key (Option.some.inj hy) hn
  · split
    · rename_i n
      cases hn : ile 0 n with
      | false => exact in64 _
      | true =>
        rw [Int64.and_comm]
        exact key (Option.some.inj hx) hn
    · exact in64 _
theorem s_land  : St1 E Y G P Ws Wa Wp J m pc len K (.land) := by
  intro s ρ σ lv st l v L hG hJ hW1 hW2 d hf hln h hl hs hst k
  cases lenOf (a := 1) hln (by decide)
  simp only [step1, disp, stBl] at hst
  split at hst
  · rename_i b a st'
    obtain ⟨w1, v1, rfl, hb, hs1⟩ := hs.cons
    obtain ⟨w2, v2, rfl, ha, hs2⟩ := hs1.cons
    cases hcx : (a.isL && b.isL) && (lx .land s a b).isSome with
    | true =>
      rw [hcx] at hst
      simp only [cond_true] at hst
      rw [Bool.and_eq_true, Bool.and_eq_true] at hcx
      obtain ⟨x, rfl, hx⟩ := ha.long hcx.1.1
      obtain ⟨y, rfl, hy⟩ := hb.long hcx.1.2
      cases hr : lx .land s a b with
      | none => rw [hr] at hcx; cases hcx.2
      | some r =>
        rw [hr] at hst
        cases Option.some.inj hst
        obtain ⟨ρ', p1, p2, p3, p4⟩ := lxAnd_ok h hcx.1.1 hx hy hr
        exact z_land ⟨d, rfl⟩ (k.one p1 p2 Fr.rf (hl.mono p1) ⟨Rv.of_long p3 p4, hs2.mono p1⟩)
    | false =>
    rw [hcx] at hst
    simp only [cond_false] at hst
    have hd0 : b.isL = true → ∀ y : Int64, ev ρ b = some y.toInt → nz (dom s b) = true → ¬ y = 0 := by
      intro q y hy hz e
      exact nz_ok hz (by have := dom_l h q hy; rw [e] at this; exact this)
    cases hc9 : (a.isL && b.isL) && (lspec .land a b (dom s a)).isSome with
    | true =>
      rw [Bool.and_eq_true] at hc9
      cases hc9.2
    | false =>
    rw [hc9] at hst
    simp only [cond_false] at hst
    cases hc : (a.isL && b.isL) && blOk .land s b with
    | false => rw [hc] at hst; cases hst
    | true =>
      rw [hc] at hst
      cases Option.some.inj hst
      simp only [Bool.and_eq_true] at hc
      obtain ⟨x, rfl, hx⟩ := ha.long hc.1.1
      obtain ⟨y, rfl, hy⟩ := hb.long hc.1.2
      obtain ⟨ρ', p1, p2, p3, p4⟩ := newL_ok (y := x &&& y) h (land_in hc.1.1 hc.1.2 hx hy)
      exact z_land ⟨d, rfl⟩ (k.one p1 p2 Fr.rf (hl.mono p1) ⟨Rv.of_long p3 p4, hs2.mono p1⟩)
  · cases hst
theorem s_lor  : St1 E Y G P Ws Wa Wp J m pc len K (.lor) := by
  intro s ρ σ lv st l v L hG hJ hW1 hW2 d hf hln h hl hs hst k
  cases lenOf (a := 1) hln (by decide)
  simp only [step1, disp, stBl] at hst
  split at hst
  · rename_i b a st'
    obtain ⟨w1, v1, rfl, hb, hs1⟩ := hs.cons
    obtain ⟨w2, v2, rfl, ha, hs2⟩ := hs1.cons
    cases hcx : (a.isL && b.isL) && (lx .lor s a b).isSome with
    | true =>
      rw [hcx] at hst
      simp only [cond_true] at hst
      rw [Bool.and_eq_true, Bool.and_eq_true] at hcx
      obtain ⟨x, rfl, hx⟩ := ha.long hcx.1.1
      obtain ⟨y, rfl, hy⟩ := hb.long hcx.1.2
      cases hr : lx .lor s a b with
      | none => rw [hr] at hcx; cases hcx.2
      | some r =>
        rw [hr] at hst
        cases Option.some.inj hst
        obtain ⟨ρ', p1, p2, p3, p4⟩ := lxOr_ok h hcx.1.1 hx hy hr
        exact z_lor ⟨d, rfl⟩ (k.one p1 p2 Fr.rf (hl.mono p1) ⟨Rv.of_long p3 p4, hs2.mono p1⟩)
    | false =>
    rw [hcx] at hst
    simp only [cond_false] at hst
    have hd0 : b.isL = true → ∀ y : Int64, ev ρ b = some y.toInt → nz (dom s b) = true → ¬ y = 0 := by
      intro q y hy hz e
      exact nz_ok hz (by have := dom_l h q hy; rw [e] at this; exact this)
    cases hc9 : (a.isL && b.isL) && (lspec .lor a b (dom s a)).isSome with
    | true =>
      rw [Bool.and_eq_true] at hc9
      cases hc9.2
    | false =>
    rw [hc9] at hst
    simp only [cond_false] at hst
    cases hc : (a.isL && b.isL) && blOk .lor s b with
    | false => rw [hc] at hst; cases hst
    | true =>
      rw [hc] at hst
      cases Option.some.inj hst
      simp only [Bool.and_eq_true] at hc
      obtain ⟨x, rfl, hx⟩ := ha.long hc.1.1
      obtain ⟨y, rfl, hy⟩ := hb.long hc.1.2
      obtain ⟨ρ', p1, p2, p3, p4⟩ := newL_ok (y := x ||| y) h (in64 _)
      exact z_lor ⟨d, rfl⟩ (k.one p1 p2 Fr.rf (hl.mono p1) ⟨Rv.of_long p3 p4, hs2.mono p1⟩)
  · cases hst
theorem s_lxor  : St1 E Y G P Ws Wa Wp J m pc len K (.lxor) := by
  intro s ρ σ lv st l v L hG hJ hW1 hW2 d hf hln h hl hs hst k
  cases lenOf (a := 1) hln (by decide)
  simp only [step1, disp, stBl] at hst
  split at hst
  · rename_i b a st'
    obtain ⟨w1, v1, rfl, hb, hs1⟩ := hs.cons
    obtain ⟨w2, v2, rfl, ha, hs2⟩ := hs1.cons
    cases hcx : (a.isL && b.isL) && (lx .lxor s a b).isSome with
    | true =>
      rw [Bool.and_eq_true] at hcx
      cases hcx.2
    | false =>
    rw [hcx] at hst
    simp only [cond_false] at hst
    have hd0 : b.isL = true → ∀ y : Int64, ev ρ b = some y.toInt → nz (dom s b) = true → ¬ y = 0 := by
      intro q y hy hz e
      exact nz_ok hz (by have := dom_l h q hy; rw [e] at this; exact this)
    cases hc9 : (a.isL && b.isL) && (lspec .lxor a b (dom s a)).isSome with
    | true =>
      rw [Bool.and_eq_true] at hc9
      cases hc9.2
    | false =>
    rw [hc9] at hst
    simp only [cond_false] at hst
    cases hc : (a.isL && b.isL) && blOk .lxor s b with
    | false => rw [hc] at hst; cases hst
    | true =>
      rw [hc] at hst
      cases Option.some.inj hst
      simp only [Bool.and_eq_true] at hc
      obtain ⟨x, rfl, hx⟩ := ha.long hc.1.1
      obtain ⟨y, rfl, hy⟩ := hb.long hc.1.2
      obtain ⟨ρ', p1, p2, p3, p4⟩ := newL_ok (y := x ^^^ y) h (in64 _)
      exact z_lxor ⟨d, rfl⟩ (k.one p1 p2 Fr.rf (hl.mono p1) ⟨Rv.of_long p3 p4, hs2.mono p1⟩)
  · cases hst
theorem s_ldiv  : St1 E Y G P Ws Wa Wp J m pc len K (.ldiv) := by
  intro s ρ σ lv st l v L hG hJ hW1 hW2 d hf hln h hl hs hst k
  cases lenOf (a := 1) hln (by decide)
  simp only [step1, disp, stBl] at hst
  split at hst
  · rename_i b a st'
    obtain ⟨w1, v1, rfl, hb, hs1⟩ := hs.cons
    obtain ⟨w2, v2, rfl, ha, hs2⟩ := hs1.cons
    cases hcx : (a.isL && b.isL) && (lx .ldiv s a b).isSome with
    | true =>
      rw [hcx] at hst
      simp only [cond_true] at hst
      rw [Bool.and_eq_true, Bool.and_eq_true] at hcx
      obtain ⟨x, rfl, hx⟩ := ha.long hcx.1.1
      obtain ⟨y, rfl, hy⟩ := hb.long hcx.1.2
      cases hr : lx .ldiv s a b with
      | none => rw [hr] at hcx; cases hcx.2
      | some r =>
        rw [hr] at hst
        cases Option.some.inj hst
        obtain ⟨hne, ρ', p1, p2, p3, p4⟩ := lxDiv_ok h hcx.1.1 hx hy hr
        exact z_ldiv ⟨d, rfl⟩ hne (k.one p1 p2 Fr.rf (hl.mono p1) ⟨Rv.of_long p3 p4, hs2.mono p1⟩)
    | false =>
    rw [hcx] at hst
    simp only [cond_false] at hst
    have hd0 : b.isL = true → ∀ y : Int64, ev ρ b = some y.toInt → nz (dom s b) = true → ¬ y = 0 := by
      intro q y hy hz e
      exact nz_ok hz (by have := dom_l h q hy; rw [e] at this; exact this)
    cases hc9 : (a.isL && b.isL) && (lspec .ldiv a b (dom s a)).isSome with
    | true =>
      rw [Bool.and_eq_true] at hc9
      cases hc9.2
    | false =>
    rw [hc9] at hst
    simp only [cond_false] at hst
    cases hc : (a.isL && b.isL) && blOk .ldiv s b with
    | false => rw [hc] at hst; cases hst
    | true =>
      rw [hc] at hst
      cases Option.some.inj hst
      simp only [Bool.and_eq_true] at hc
      obtain ⟨x, rfl, hx⟩ := ha.long hc.1.1
      obtain ⟨y, rfl, hy⟩ := hb.long hc.1.2
      obtain ⟨ρ', p1, p2, p3, p4⟩ := newL_ok (y := x / y) h (in64 _)
      exact z_ldiv ⟨d, rfl⟩ (hd0 hc.1.2 y hy hc.2) (k.one p1 p2 Fr.rf (hl.mono p1) ⟨Rv.of_long p3 p4, hs2.mono p1⟩)
  · cases hst
theorem s_lrem  : St1 E Y G P Ws Wa Wp J m pc len K (.lrem) := by
  intro s ρ σ lv st l v L hG hJ hW1 hW2 d hf hln h hl hs hst k
  cases lenOf (a := 1) hln (by decide)
  simp only [step1, disp, stBl] at hst
  split at hst
  · rename_i b a st'
    obtain ⟨w1, v1, rfl, hb, hs1⟩ := hs.cons
    obtain ⟨w2, v2, rfl, ha, hs2⟩ := hs1.cons
    cases hcx : (a.isL && b.isL) && (lx .lrem s a b).isSome with
    | true =>
      rw [hcx] at hst
      simp only [cond_true] at hst
      rw [Bool.and_eq_true, Bool.and_eq_true] at hcx
      obtain ⟨x, rfl, hx⟩ := ha.long hcx.1.1
      obtain ⟨y, rfl, hy⟩ := hb.long hcx.1.2
      cases hr : lx .lrem s a b with
      | none => rw [hr] at hcx; cases hcx.2
      | some r =>
        rw [hr] at hst
        cases Option.some.inj hst
        obtain ⟨hne, ρ', p1, p2, p3, p4⟩ := lxRem_ok h hcx.1.1 hcx.1.2 hx hy hr
        exact z_lrem ⟨d, rfl⟩ hne (k.one p1 p2 Fr.rf (hl.mono p1) ⟨Rv.of_long p3 p4, hs2.mono p1⟩)
    | false =>
    rw [hcx] at hst
    simp only [cond_false] at hst
    have hd0 : b.isL = true → ∀ y : Int64, ev ρ b = some y.toInt → nz (dom s b) = true → ¬ y = 0 := by
      intro q y hy hz e
      exact nz_ok hz (by have := dom_l h q hy; rw [e] at this; exact this)
    cases hc9 : (a.isL && b.isL) && (lspec .lrem a b (dom s a)).isSome with
    | true =>
      rw [hc9] at hst
      cases Option.some.inj hst
      rw [Bool.and_eq_true, Bool.and_eq_true] at hc9
      obtain ⟨⟨c1, c2⟩, c3⟩ := hc9
      obtain ⟨x, rfl, hx⟩ := ha.long c1
      obtain ⟨y, rfl, hy⟩ := hb.long c2
      obtain ⟨w, hw⟩ := Option.isSome_iff_exists.mp c3
      rw [hw] at k
      have ez : ∀ q : Int64, q.toInt = 0 → q = 0 := fun q hq => Int64.toInt_inj.mp (hq.trans (by decide))
      simp only [lspec] at hw
      split at hw
      · rename_i n
        cases hq : dsub (dom s a) [(0, n - 1)] with
        | false => rw [hq] at hw; cases hw
        | true =>
          rw [hq] at hw
          cases Option.some.inj hw
          have g1 := inD_one (dsub_in hq (dom_l h c1 hx))
          have g2 : n = y.toInt := Option.some.inj hy
          have hrem : x - x / y * y = x := rem_self g1.1 (by omega)
          refine z_lrem ⟨d, rfl⟩ (fun e => ?_) ?_
          · have e0 : (0 : Int64).toInt = 0 := by decide
            rw [e, e0] at g2
            omega
          · rw [hrem]
            exact k.one Pre.rf h Fr.rf hl ⟨ha, hs2⟩
      · cases hw
    | false =>
    rw [hc9] at hst
    simp only [cond_false] at hst
    cases hc : (a.isL && b.isL) && blOk .lrem s b with
    | false => rw [hc] at hst; cases hst
    | true =>
      rw [hc] at hst
      cases Option.some.inj hst
      simp only [Bool.and_eq_true] at hc
      obtain ⟨x, rfl, hx⟩ := ha.long hc.1.1
      obtain ⟨y, rfl, hy⟩ := hb.long hc.1.2
      obtain ⟨ρ', p1, p2, p3, p4⟩ := newL_ok (y := x - x / y * y) h (in64 _)
      exact z_lrem ⟨d, rfl⟩ (hd0 hc.1.2 y hy hc.2) (k.one p1 p2 Fr.rf (hl.mono p1) ⟨Rv.of_long p3 p4, hs2.mono p1⟩)
  · cases hst
theorem shr0 (x : Int64) : j_lshr x 0 = x := by
  unfold j_lshr
  have : (Int32.toInt64 0 &&& 63 : Int64) = 0 := by decide
  rw [this]
  simp
theorem less_ok {J : Jt} {s : Sy} {ρ : List Int} {σ : zS} (h : Ok J s ρ σ) {v a : AV} {x y : Int} (hv : ev ρ v = some x) (ha : ev ρ a = some y) (hxy : x < y) : Ok J (s.less v a) ρ σ := by
  obtain ⟨u, a1, a2⟩ := nf_ok h hv
  obtain ⟨w, b1, b2⟩ := nf_ok h ha
  exact factd_ok h (tlin_ok (w := -1) b1 a1) (by omega)
theorem one_of {ρ : List Int} {b : AV} {y : Int32} (hy : ev ρ b = some y.toInt) (h : AV.eq b (.c 1) = true) : y = 1 := by
  rw [AV.eq_of h] at hy
  exact Int32.toInt_inj.mp ((Option.some.inj hy).symm.trans (by decide))
theorem lshr_lt {ρ : List Int} {b : AV} {x : Int64} {y : Int32} {dm : Dom} (hx : inD x.toInt dm) (hy : ev ρ b = some y.toInt) (h1 : shf .lshr b = true) (h2 : ile 1 (dlo dm) = true) : (j_lshr x y).toInt < x.toInt := by
  rw [one_of hy h1, lshr1]
  have := dlo_le hx
  have := ile_iff.mp h2
  omega
theorem lushr_lt {ρ : List Int} {b : AV} {x : Int64} {y : Int32} {dm : Dom} (hx : inD x.toInt dm) (hy : ev ρ b = some y.toInt) (h1 : shf .lushr b = true) (h2 : ile 1 (dlo dm) = true) : (j_lushr x y).toInt < x.toInt := by
  have h3 := dlo_le hx
  have h4 := ile_iff.mp h2
  rw [one_of hy h1, (lushr1 x).2 (by omega)]
  omega
theorem lshr_in {ρ : List Int} {b : AV} {x : Int64} {y : Int32} {dm : Dom} (hx : inD x.toInt dm) (hy : ev ρ b = some y.toInt) : inD (j_lshr x y).toInt (shd .lshr dm b) := by
  simp only [shd]
  cases hc : AV.eq b (.c 1) && ile 1 (dlo dm) with
  | false => exact in64 _
  | true =>
    rw [Bool.and_eq_true] at hc
    have h1 := lshr_lt hx hy hc.1 hc.2
    have h2 := dlo_le hx
    have h3 := le_dhi hx
    have h4 := ile_iff.mp hc.2
    have h5 : (j_lshr x y).toInt = x.toInt / 2 := by rw [one_of hy hc.1, lshr1]
    exact ⟨_, List.mem_cons_self .., by dsimp only; omega, by dsimp only; omega⟩
theorem lushr_in {ρ : List Int} {b : AV} {x : Int64} {y : Int32} {dm : Dom} (hx : inD x.toInt dm) (hy : ev ρ b = some y.toInt) : inD (j_lushr x y).toInt (shd .lushr dm b) := by
  simp only [shd]
  cases hc : AV.eq b (.c 1) with
  | false => exact in64 _
  | true =>
    simp only [cond_true]
    have h0 : (0 : Int) ≤ (j_lushr x y).toInt := by rw [one_of hy hc]; exact (lushr1 x).1
    cases hd : ile 1 (dlo dm) with
    | false =>
      obtain ⟨_, q, _, q2⟩ := in64 (j_lushr x y)
      simp only [T64, List.mem_singleton] at q
      subst q
      exact ⟨_, List.mem_cons_self .., h0, q2⟩
    | true =>
      have h1 := lushr_lt hx hy hc hd
      have h3 := le_dhi hx
      exact ⟨_, List.mem_cons_self .., h0, by dsimp only; omega⟩
theorem s_lshl  : St1 E Y G P Ws Wa Wp J m pc len K (.lshl) := by
  intro s ρ σ lv st l v L hG hJ hW1 hW2 d hf hln h hl hs hst k
  cases lenOf (a := 1) hln (by decide)
  simp only [step1, disp, stSl] at hst
  split at hst
  · rename_i b a st'
    obtain ⟨w1, v1, rfl, hb, hs1⟩ := hs.cons
    obtain ⟨w2, v2, rfl, ha, hs2⟩ := hs1.cons
    cases hcx : (a.isL && b.isI) && (lx .lshl s a b).isSome with
    | true =>
      rw [hcx] at hst
      simp only [cond_true] at hst
      rw [Bool.and_eq_true, Bool.and_eq_true] at hcx
      obtain ⟨x, rfl, hx⟩ := ha.long hcx.1.1
      obtain ⟨y, rfl, hy⟩ := hb.int hcx.1.2
      cases hr : lx .lshl s a b with
      | none => rw [hr] at hcx; cases hcx.2
      | some r =>
        rw [hr] at hst
        cases Option.some.inj hst
        obtain ⟨ρ', p1, p2, p3, p4⟩ := lxShl_ok h hcx.1.1 hcx.1.2 hx hy hr
        exact z_lshl ⟨d, rfl⟩ rfl (k.one p1 p2 Fr.rf (hl.mono p1) ⟨Rv.of_long p3 p4, hs2.mono p1⟩)
    | false =>
    rw [hcx] at hst
    simp only [cond_false] at hst
    cases hc9 : a.isL && (isShr .lshl && AV.eq b (.c 0)) with
    | true =>
      rw [Bool.and_eq_true] at hc9
      cases hc9.2
    | false =>
    rw [hc9] at hst
    simp only [cond_false] at hst
    cases hc : a.isL && b.isI with
    | false => rw [hc] at hst; cases hst
    | true =>
      rw [hc] at hst
      cases Option.some.inj hst
      simp only [Bool.and_eq_true] at hc
      obtain ⟨x, rfl, hx⟩ := ha.long hc.1
      obtain ⟨y, rfl, hy⟩ := hb.int hc.2
      obtain ⟨ρ', p1, p2, p3, p4⟩ := newL_ok (y := j_lshl x y) h (in64 _)
      exact z_lshl ⟨d, rfl⟩ rfl (k.one p1 p2 Fr.rf (hl.mono p1) ⟨Rv.of_long p3 p4, hs2.mono p1⟩)
  · cases hst
theorem s_lshr  : St1 E Y G P Ws Wa Wp J m pc len K (.lshr) := by
  intro s ρ σ lv st l v L hG hJ hW1 hW2 d hf hln h hl hs hst k
  cases lenOf (a := 1) hln (by decide)
  simp only [step1, disp, stSl] at hst
  split at hst
  · rename_i b a st'
    obtain ⟨w1, v1, rfl, hb, hs1⟩ := hs.cons
    obtain ⟨w2, v2, rfl, ha, hs2⟩ := hs1.cons
    cases hcx : (a.isL && b.isI) && (lx .lshr s a b).isSome with
    | true =>
      rw [Bool.and_eq_true] at hcx
      cases hcx.2
    | false =>
    rw [hcx] at hst
    simp only [cond_false] at hst
    cases hc9 : a.isL && (isShr .lshr && AV.eq b (.c 0)) with
    | true =>
      rw [hc9] at hst
      cases Option.some.inj hst
      rw [Bool.and_eq_true] at hc9
      obtain ⟨c1, c2⟩ := hc9
      obtain ⟨x, rfl, hx⟩ := ha.long c1
      have hq : AV.eq b (.c 0) = true := c2
      rw [AV.eq_of hq] at hb
      obtain ⟨y, rfl, hy⟩ := hb
      have hy0 : y = 0 := Int32.toInt_inj.mp (hy.symm.trans (by decide))
      have e9 : j_lshr x y = x := by rw [hy0, shr0]
      refine z_lshr ⟨d, rfl⟩ rfl ?_
      show Wz E (Y m) (pc + 1) l (.long (j_lshr x y) :: v2) σ K
      rw [e9]
      exact k.one Pre.rf h Fr.rf hl ⟨ha, hs2⟩
    | false =>
    rw [hc9] at hst
    simp only [cond_false] at hst
    cases hc : a.isL && b.isI with
    | false => rw [hc] at hst; cases hst
    | true =>
      rw [hc] at hst
      cases Option.some.inj hst
      simp only [Bool.and_eq_true] at hc
      obtain ⟨x, rfl, hx⟩ := ha.long hc.1
      obtain ⟨y, rfl, hy⟩ := hb.int hc.2
      obtain ⟨ρ', p1, p2, p3, p4⟩ := newL_ok (y := j_lshr x y) h (lshr_in (b := b) (dom_l h hc.1 hx) hy)
      refine z_lshr ⟨d, rfl⟩ rfl (k.one p1 ?_ Fr.rf (hl.mono p1) ⟨Rv.of_long p3 p4, hs2.mono p1⟩)
      cases hs9 : shf .lshr b && ile 1 (dlo (dom s a)) with
      | false => exact p2
      | true =>
        rw [Bool.and_eq_true] at hs9
        exact less_ok p2 p4 (ev.mono p1 hx) (lshr_lt (dom_l h hc.1 hx) hy hs9.1 hs9.2)
  · cases hst
theorem s_lushr  : St1 E Y G P Ws Wa Wp J m pc len K (.lushr) := by
  intro s ρ σ lv st l v L hG hJ hW1 hW2 d hf hln h hl hs hst k
  cases lenOf (a := 1) hln (by decide)
  simp only [step1, disp, stSl] at hst
  split at hst
  · rename_i b a st'
    obtain ⟨w1, v1, rfl, hb, hs1⟩ := hs.cons
    obtain ⟨w2, v2, rfl, ha, hs2⟩ := hs1.cons
    cases hcx : (a.isL && b.isI) && (lx .lushr s a b).isSome with
    | true =>
      rw [hcx] at hst
      simp only [cond_true] at hst
      rw [Bool.and_eq_true, Bool.and_eq_true] at hcx
      obtain ⟨x, rfl, hx⟩ := ha.long hcx.1.1
      obtain ⟨y, rfl, hy⟩ := hb.int hcx.1.2
      cases hr : lx .lushr s a b with
      | none => rw [hr] at hcx; cases hcx.2
      | some r =>
        rw [hr] at hst
        cases Option.some.inj hst
        obtain ⟨ρ', p1, p2, p3, p4⟩ := lxUshr_ok h hcx.1.1 hx hy hr
        exact z_lushr ⟨d, rfl⟩ rfl (k.one p1 p2 Fr.rf (hl.mono p1) ⟨Rv.of_long p3 p4, hs2.mono p1⟩)
    | false =>
    rw [hcx] at hst
    simp only [cond_false] at hst
    cases hc9 : a.isL && (isShr .lushr && AV.eq b (.c 0)) with
    | true =>
      rw [Bool.and_eq_true] at hc9
      cases hc9.2
    | false =>
    rw [hc9] at hst
    simp only [cond_false] at hst
    cases hc : a.isL && b.isI with
    | false => rw [hc] at hst; cases hst
    | true =>
      rw [hc] at hst
      cases Option.some.inj hst
      simp only [Bool.and_eq_true] at hc
      obtain ⟨x, rfl, hx⟩ := ha.long hc.1
      obtain ⟨y, rfl, hy⟩ := hb.int hc.2
      obtain ⟨ρ', p1, p2, p3, p4⟩ := newL_ok (y := j_lushr x y) h (lushr_in (b := b) (dom_l h hc.1 hx) hy)
      refine z_lushr ⟨d, rfl⟩ rfl (k.one p1 ?_ Fr.rf (hl.mono p1) ⟨Rv.of_long p3 p4, hs2.mono p1⟩)
      cases hs9 : shf .lushr b && ile 1 (dlo (dom s a)) with
      | false => exact p2
      | true =>
        rw [Bool.and_eq_true] at hs9
        exact less_ok p2 p4 (ev.mono p1 hx) (lushr_lt (dom_l h hc.1 hx) hy hs9.1 hs9.2)
  · cases hst
theorem s_ineg  : St1 E Y G P Ws Wa Wp J m pc len K (.ineg) := by
  intro s ρ σ lv st l v L hG hJ hW1 hW2 d hf hln h hl hs hst k
  cases lenOf (a := 1) hln (by decide)
  simp only [step1, disp, s1_ineg] at hst
  split at hst
  · rename_i a st'
    obtain ⟨w1, v1, rfl, ha, hs2⟩ := hs.cons
    cases hc : a.isI with
    | false => rw [hc] at hst; cases hst
    | true =>
      rw [hc] at hst
      obtain ⟨x, rfl, hx⟩ := ha.int hc
      simp only [cond_true] at hst
      cases hc2 : ile (-2147483647) (dlo (dom s a)) with
      | true =>
        rw [hc2] at hst
        cases Option.some.inj hst
        have hc3 := ile_iff.mp hc2
        have hd := dom_i h hc hx
        have l1 := dlo_le hd
        have l2 := le_dhi hd
        obtain ⟨w, f1, f2⟩ := nf_ok h hx
        have hm := Int32.le_toInt x
        have hM : x.toInt ≤ 2147483647 := Int32.toInt_le x
        have hneg : (-x).toInt = -x.toInt := by
          rw [Int32.toInt_neg]
          exact bm32 ⟨by omega, by omega⟩
        obtain ⟨ρ', p1, p2, p3, p4⟩ := lin_ok (lg := false) h (tlin_ok (w := -1) f1 (f := []) (v := 0) rfl) (x := (-x).toInt) (k := -(nf s a).2) (by rw [hneg]; omega) (d := [(-(dhi (dom s a)), -(dlo (dom s a)))]) ⟨_, List.mem_cons_self .., by dsimp only; omega, by dsimp only; omega⟩
        exact z_ineg ⟨d, rfl⟩ (k.one p1 p2 Fr.rf (hl.mono p1) ⟨Rv.of_int p3.2 p4, hs2.mono p1⟩)
      | false =>
      rw [hc2] at hst
      cases Option.some.inj hst
      obtain ⟨ρ', p1, p2, p3, p4⟩ := newI_ok (y := -x) h (in32 _)
      exact z_ineg ⟨d, rfl⟩ (k.one p1 p2 Fr.rf (hl.mono p1) ⟨Rv.of_int p3 p4, hs2.mono p1⟩)
  · cases hst
theorem s_lneg  : St1 E Y G P Ws Wa Wp J m pc len K (.lneg) := by
  intro s ρ σ lv st l v L hG hJ hW1 hW2 d hf hln h hl hs hst k
  cases lenOf (a := 1) hln (by decide)
  simp only [step1, disp, s1_lneg] at hst
  split at hst
  · rename_i a st'
    obtain ⟨w1, v1, rfl, ha, hs2⟩ := hs.cons
    cases hc : a.isL with
    | false => rw [hc] at hst; cases hst
    | true =>
      rw [hc] at hst
      obtain ⟨x, rfl, hx⟩ := ha.long hc
      cases Option.some.inj hst
      obtain ⟨ρ', p1, p2, p3, p4⟩ := newL_ok (y := -x) h (in64 _)
      exact z_lneg ⟨d, rfl⟩ (k.one p1 p2 Fr.rf (hl.mono p1) ⟨Rv.of_long p3 p4, hs2.mono p1⟩)
  · cases hst
theorem s_i2l  : St1 E Y G P Ws Wa Wp J m pc len K (.i2l) := by
  intro s ρ σ lv st l v L hG hJ hW1 hW2 d hf hln h hl hs hst k
  cases lenOf (a := 1) hln (by decide)
  simp only [step1, disp, s1_i2l] at hst
  split at hst
  · rename_i a st'
    obtain ⟨w1, v1, rfl, ha, hs2⟩ := hs.cons
    cases hc : a.isI with
    | false => rw [hc] at hst; cases hst
    | true =>
      rw [hc] at hst
      obtain ⟨x, rfl, hx⟩ := ha.int hc
      cases Option.some.inj hst
      refine z_i2l ⟨d, rfl⟩ rfl (k.one Pre.rf h Fr.rf hl ⟨?_, hs2⟩)
      have e : x.toInt64.toInt = x.toInt := Int32.toInt_toInt64 x
      rcases a with ⟨id, o⟩ | n | ⟨_, _⟩ | _ | _ | ⟨_, _⟩
      · exact ⟨_, rfl, by rw [e]; exact hx⟩
      · exact ⟨_, rfl, by rw [e]; exact Option.some.inj hx⟩
      · cases hc
      · cases hc
      · cases hc
      · cases hc
  · cases hst
theorem s_l2i  : St1 E Y G P Ws Wa Wp J m pc len K (.l2i) := by
  intro s ρ σ lv st l v L hG hJ hW1 hW2 d hf hln h hl hs hst k
  cases lenOf (a := 1) hln (by decide)
  simp only [step1, disp, s1_l2i] at hst
  split at hst
  · rename_i a st'
    obtain ⟨w1, v1, rfl, ha, hs2⟩ := hs.cons
    cases hc : a.isL with
    | false => rw [hc] at hst; cases hst
    | true =>
      rw [hc] at hst
      obtain ⟨x, rfl, hx⟩ := ha.long hc
      cases Option.some.inj hst
      obtain ⟨ρ', p1, p2, p3, p4⟩ := l2i_ok h hc hx
      exact z_l2i ⟨d, rfl⟩ rfl (k.one p1 p2 Fr.rf (hl.mono p1) ⟨Rv.of_int p3 p4, hs2.mono p1⟩)
  · cases hst
theorem z_i2b {E : xV} {Y : xY} {pc pc' : Nat} {lv : List (Nat × Value)} {st : List Value} {σ : zS} {K : zKt} {x v : Int32} (d : decode Y.2.1 pc = .ok (.i2b, 1) ∧ pc + 1 = pc') (hv : x.toInt8.toInt32 = v) (k : Wz E Y pc' lv (.int v :: st) σ K) : Wz E Y pc lv (.int x :: st) σ K := by
  obtain ⟨d, rfl⟩ := d
  exact fun p e R s m args below meth c H locs ls a0 n0 a hC hn hg hH hS hl => lv_i2b hC.1 hC.2.1 d hv (k p e R s m args below meth c H locs ls a0 n0 a hC hn hg hH hS hl)
theorem s_i2b : St1 E Y G P Ws Wa Wp J m pc len K (.i2b) := by
  intro s ρ σ lv st l v L hG hJ hW1 hW2 d hf hln h hl hs hst k
  cases lenOf (a := 1) hln (by decide)
  simp only [step1, disp, s1_i2b] at hst
  split at hst
  · rename_i a st'
    obtain ⟨w1, v1, rfl, ha, hs2⟩ := hs.cons
    cases hc9 : a.isI && dsub (dom s a) [(-128, 127)] with
    | true =>
      rw [hc9] at hst
      cases Option.some.inj hst
      rw [Bool.and_eq_true] at hc9
      obtain ⟨x, rfl, hx⟩ := ha.int hc9.1
      have h1 := inD_one (dsub_in hc9.2 (dom_i h hc9.1 hx))
      have e : x.toInt8.toInt32 = x := by
        apply Int32.toInt_inj.mp
        rw [Int8.toInt_toInt32, Int32.toInt_toInt8]
        rw [Int.bmod_def]
        split <;> omega
      exact z_i2b (v := x) ⟨d, rfl⟩ e (k.one Pre.rf h Fr.rf hl ⟨ha, hs2⟩)
    | false =>
    rw [hc9] at hst
    simp only [cond_false] at hst
    cases hc : a.isI with
    | false => rw [hc] at hst; cases hst
    | true =>
      rw [hc] at hst
      cases Option.some.inj hst
      obtain ⟨x, rfl, hx⟩ := ha.int hc
      obtain ⟨ρ', p1, p2, p3, p4⟩ := newI_ok (y := x.toInt8.toInt32) h (in32 _)
      exact z_i2b ⟨d, rfl⟩ rfl (k.one p1 p2 Fr.rf (hl.mono p1) ⟨Rv.of_int p3 p4, hs2.mono p1⟩)
  · cases hst
theorem s_i2c  : St1 E Y G P Ws Wa Wp J m pc len K (.i2c) := by
  intro s ρ σ lv st l v L hG hJ hW1 hW2 d hf hln h hl hs hst k
  cases lenOf (a := 1) hln (by decide)
  simp only [step1, disp, s1_i2c] at hst
  split at hst
  · rename_i a st'
    obtain ⟨w1, v1, rfl, ha, hs2⟩ := hs.cons
    cases hc : a.isI with
    | false => rw [hc] at hst; cases hst
    | true =>
      rw [hc] at hst
      obtain ⟨x, rfl, hx⟩ := ha.int hc
      cases hd : dsub (dom s a) [(0, 65535)] with
      | true =>
        rw [hd] at hst
        cases Option.some.inj hst
        have h1 := inD_one (dsub_in hd (dom_i h hc hx))
        refine z_i2c (v := x) ⟨d, rfl⟩ ?_ (k.one Pre.rf h Fr.rf hl ⟨ha, hs2⟩)
        exact (i2c_ok x).2 h1.1 h1.2
      | false =>
        rw [hd] at hst
        cases Option.some.inj hst
        obtain ⟨ρ', p1, p2, p3, p4⟩ := newI_ok (y := j_i2c x) h (i2c_ok x).1
        exact z_i2c ⟨d, rfl⟩ rfl (k.one p1 p2 Fr.rf (hl.mono p1) ⟨Rv.of_int p3 p4, hs2.mono p1⟩)
  · cases hst
theorem s_pop  : St1 E Y G P Ws Wa Wp J m pc len K (.pop) := by
  intro s ρ σ lv st l v L hG hJ hW1 hW2 d hf hln h hl hs hst k
  cases lenOf (a := 1) hln (by decide)
  simp only [step1, disp, s1_pop] at hst
  split at hst
  · rename_i a st'
    obtain ⟨w1, v1, rfl, ha, hs2⟩ := hs.cons
    cases hc : a.isI with
    | false => rw [hc] at hst; cases hst
    | true =>
      rw [hc] at hst
      obtain ⟨x, rfl, hx⟩ := ha.int hc
      cases Option.some.inj hst
      exact z_popi ⟨d, rfl⟩ (k.one Pre.rf h Fr.rf hl hs2)
  · cases hst
theorem s_dup  : St1 E Y G P Ws Wa Wp J m pc len K (.dup) := by
  intro s ρ σ lv st l v L hG hJ hW1 hW2 d hf hln h hl hs hst k
  cases lenOf (a := 1) hln (by decide)
  simp only [step1, disp, s1_dup] at hst
  split at hst
  · rename_i a st'
    obtain ⟨w1, v1, rfl, ha, hs2⟩ := hs.cons
    cases hc : a.isL with
    | true => rw [hc] at hst; cases hst
    | false =>
      rw [hc] at hst
      cases Option.some.inj hst
      have hk := k.one Pre.rf h Fr.rf hl (v' := w1 :: w1 :: v1) ⟨ha, ha, hs2⟩
      rcases a with ⟨id, o⟩ | n | ⟨id, o⟩ | n | q | ⟨b, n⟩
      · obtain ⟨y, rfl, -⟩ := ha; exact z_dupi ⟨d, rfl⟩ hk
      · obtain ⟨y, rfl, -⟩ := ha; exact z_dupi ⟨d, rfl⟩ hk
      · cases hc
      · cases hc
      · cases ha; exact z_dupr ⟨d, rfl⟩ hk
      · obtain ⟨y, rfl, -⟩ := ha; exact z_dupr ⟨d, rfl⟩ hk
  · cases hst
theorem s_dup2  : St1 E Y G P Ws Wa Wp J m pc len K (.dup2) := by
  intro s ρ σ lv st l v L hG hJ hW1 hW2 d hf hln h hl hs hst k
  cases lenOf (a := 1) hln (by decide)
  simp only [step1, disp, s1_dup2] at hst
  split at hst
  · rename_i a b st'
    obtain ⟨w1, v1, rfl, ha, hs1⟩ := hs.cons
    obtain ⟨w2, v2, rfl, hb, hs2⟩ := hs1.cons
    cases hc : a.isL with
    | true =>
      rw [hc] at hst
      cases Option.some.inj hst
      obtain ⟨x, rfl, hx⟩ := ha.long hc
      exact z_dup2l ⟨d, rfl⟩ (k.one Pre.rf h Fr.rf hl ⟨ha, ha, hb, hs2⟩)
    | false =>
      rw [hc] at hst
      simp only [cond_false] at hst
      cases hd : a.isI && (!(b.isL) && !(b.isI)) with
      | false => rw [hd] at hst; cases hst
      | true =>
        rw [hd] at hst
        cases Option.some.inj hst
        simp only [Bool.and_eq_true, Bool.not_eq_true'] at hd
        obtain ⟨x, rfl, hx⟩ := ha.int hd.1
        have hk := k.one Pre.rf h Fr.rf hl (v' := .int x :: w2 :: .int x :: w2 :: v2) ⟨ha, hb, ha, hb, hs2⟩
        rcases b with ⟨id, o⟩ | n | ⟨id, o⟩ | n | q | ⟨b, n⟩
        · cases hd.2.2
        · cases hd.2.2
        · cases hd.2.1
        · cases hd.2.1
        · cases hb; exact z_dup2ir ⟨d, rfl⟩ hk
        · obtain ⟨y, rfl, -⟩ := hb; exact z_dup2ir ⟨d, rfl⟩ hk
  · cases hst
theorem s_ifz {c : Cm} {off : Int} : St1 E Y G P Ws Wa Wp J m pc len K (.ifCond c off) := by
  intro s ρ σ lv st l v L hG hJ hW1 hW2 d hf hln h hl hs hst k
  cases lenOf (a := 3) hln (by decide)
  simp only [step1, disp, s1_ifCond] at hst
  split at hst
  · rename_i a st'
    obtain ⟨w1, v1, rfl, ha, hs2⟩ := hs.cons
    cases hc : a.isI with
    | false => rw [hc] at hst; cases hst
    | true =>
      rw [hc] at hst
      obtain ⟨x, rfl, hx⟩ := ha.int hc
      simp only [cond_true] at hst
      cases ht : tgt pc off with
      | none => rw [ht] at hst; cases hst
      | some t =>
        rw [ht] at hst
        cases Option.some.inj hst
        have hk := br_ok (y := (0 : Int32).toInt) h hx (by rfl) (dom_i h hc hx) (dom_i (a := .c 0) h rfl rfl) hl hs2 k
        cases c with
        | eq => exact z_if_eq ⟨d, tgt_ok ht, rfl⟩ (fun q => hk.1 (congrArg Int32.toInt q)) (fun q => hk.2 (fun e => q (Int32.toInt_inj.mp e)))
        | ne => exact z_if_ne ⟨d, tgt_ok ht, rfl⟩ (fun q => hk.1 (fun e => q (Int32.toInt_inj.mp e))) (fun q => hk.2 (fun e => e (congrArg Int32.toInt q)))
        | lt => exact z_if_lt ⟨d, tgt_ok ht, rfl⟩ (fun q => hk.1 (Int32.lt_iff_toInt_lt.mp q)) (fun q => hk.2 (fun e => q (Int32.lt_iff_toInt_lt.mpr e)))
        | ge => exact z_if_ge ⟨d, tgt_ok ht, rfl⟩ (fun q => hk.1 (Int32.le_iff_toInt_le.mp q)) (fun q => hk.2 (fun e => q (Int32.le_iff_toInt_le.mpr e)))
        | gt => exact z_if_gt ⟨d, tgt_ok ht, rfl⟩ (fun q => hk.1 (Int32.lt_iff_toInt_lt.mp q)) (fun q => hk.2 (fun e => q (Int32.lt_iff_toInt_lt.mpr e)))
        | le => exact z_if_le ⟨d, tgt_ok ht, rfl⟩ (fun q => hk.1 (Int32.le_iff_toInt_le.mp q)) (fun q => hk.2 (fun e => q (Int32.le_iff_toInt_le.mpr e)))
  · cases hst
theorem s_icm {c : Cm} {off : Int} : St1 E Y G P Ws Wa Wp J m pc len K (.if_icmp c off) := by
  intro s ρ σ lv st l v L hG hJ hW1 hW2 d hf hln h hl hs hst k
  cases lenOf (a := 3) hln (by decide)
  simp only [step1, disp, s1_if_icmp] at hst
  split at hst
  · rename_i b a st'
    obtain ⟨w1, v1, rfl, hb, hs1⟩ := hs.cons
    obtain ⟨w2, v2, rfl, ha, hs2⟩ := hs1.cons
    cases hc : a.isI && b.isI with
    | false => rw [hc] at hst; cases hst
    | true =>
      rw [hc] at hst
      simp only [Bool.and_eq_true] at hc
      obtain ⟨x, rfl, hx⟩ := ha.int hc.1
      obtain ⟨y, rfl, hy⟩ := hb.int hc.2
      simp only [cond_true] at hst
      cases ht : tgt pc off with
      | none => rw [ht] at hst; cases hst
      | some t =>
        rw [ht] at hst
        cases Option.some.inj hst
        have hk := br_ok h hx hy (dom_i h hc.1 hx) (dom_i h hc.2 hy) hl hs2 k
        cases c with
        | eq => exact z_icmp_eq ⟨d, tgt_ok ht, rfl⟩ (fun q => hk.1 (congrArg Int32.toInt q)) (fun q => hk.2 (fun e => q (Int32.toInt_inj.mp e)))
        | ne => exact z_icmp_ne ⟨d, tgt_ok ht, rfl⟩ (fun q => hk.1 (fun e => q (Int32.toInt_inj.mp e))) (fun q => hk.2 (fun e => e (congrArg Int32.toInt q)))
        | lt => exact z_icmp_lt ⟨d, tgt_ok ht, rfl⟩ (fun q => hk.1 (Int32.lt_iff_toInt_lt.mp q)) (fun q => hk.2 (fun e => q (Int32.lt_iff_toInt_lt.mpr e)))
        | ge => exact z_icmp_ge ⟨d, tgt_ok ht, rfl⟩ (fun q => hk.1 (Int32.le_iff_toInt_le.mp q)) (fun q => hk.2 (fun e => q (Int32.le_iff_toInt_le.mpr e)))
        | gt => exact z_icmp_gt ⟨d, tgt_ok ht, rfl⟩ (fun q => hk.1 (Int32.lt_iff_toInt_lt.mp q)) (fun q => hk.2 (fun e => q (Int32.lt_iff_toInt_lt.mpr e)))
        | le => exact z_icmp_le ⟨d, tgt_ok ht, rfl⟩ (fun q => hk.1 (Int32.le_iff_toInt_le.mp q)) (fun q => hk.2 (fun e => q (Int32.le_iff_toInt_le.mpr e)))
  · cases hst
theorem s_go {off : Int} : St1 E Y G P Ws Wa Wp J m pc len K (.goto off) := by
  intro s ρ σ lv st l v L hG hJ hW1 hW2 d hf hln h hl hs hst k
  cases lenOf (a := 3) hln (by decide)
  simp only [step1, disp, s1_goto] at hst
  cases ht : tgt pc off with
  | none => rw [ht] at hst; cases hst
  | some t =>
    rw [ht] at hst
    cases Option.some.inj hst
    exact z_goto ⟨d, tgt_ok ht, rfl⟩ (k.one Pre.rf h Fr.rf hl hs)
theorem s_lcmp  : St1 E Y G P Ws Wa Wp J m pc len K (.lcmp) := by
  intro s ρ σ lv st l v L hG hJ hW1 hW2 d hf hln h hl hs hst k
  cases lenOf (a := 1) hln (by decide)
  simp only [step1, disp, s1_lcmp] at hst
  split at hst
  · rename_i b a st'
    obtain ⟨w1, v1, rfl, hb, hs1⟩ := hs.cons
    obtain ⟨w2, v2, rfl, ha, hs2⟩ := hs1.cons
    cases hc : a.isL && b.isL with
    | false => rw [hc] at hst; cases hst
    | true =>
      rw [hc] at hst
      simp only [Bool.and_eq_true] at hc
      obtain ⟨x, rfl, hx⟩ := ha.long hc.1
      obtain ⟨y, rfl, hy⟩ := hb.long hc.2
      simp only [cond_true] at hst
      split at hst
      · rename_i c off n hcd
        cases ht : tgt (pc + 1) off with
        | none => rw [ht] at hst; cases hst
        | some t =>
          rw [ht] at hst
          cases Option.some.inj hst
          have hk := br_ok h hx hy (dom_l h hc.1 hx) (dom_l h hc.2 hy) hl hs2 k
          obtain ⟨d2, -, hn⟩ := hG.code _ _ _ _ hcd
          cases lenOf (a := 3) hn (by decide)
          refine z_lcmp ⟨d, rfl⟩ ?_
          have hq := cmp_ok (x := x) (y := y) c
          have e0 : (0 : Int32).toInt = 0 := by decide
          cases c with
          | eq => exact z_if_eq ⟨d2, tgt_ok ht, rfl⟩ (fun q => hk.1 (hq.mp (by have := congrArg Int32.toInt q; rw [e0] at this; exact this))) (fun q => hk.2 (fun e => q (by have := hq.mpr e; exact Int32.toInt_inj.mp (this.trans e0.symm))))
          | ne => exact z_if_ne ⟨d2, tgt_ok ht, rfl⟩ (fun q => hk.1 (hq.mp (by exact fun e => q (Int32.toInt_inj.mp (e.trans e0.symm))))) (fun q => hk.2 (fun e => hq.mpr e (by rw [q]; rfl)))
          | lt => exact z_if_lt ⟨d2, tgt_ok ht, rfl⟩ (fun q => hk.1 (hq.mp (by have := Int32.lt_iff_toInt_lt.mp q; rw [e0] at this; exact this))) (fun q => hk.2 (fun e => q (by have := hq.mpr e; exact Int32.lt_iff_toInt_lt.mpr (by rw [e0]; exact this))))
          | ge => exact z_if_ge ⟨d2, tgt_ok ht, rfl⟩ (fun q => hk.1 (hq.mp (by have := Int32.le_iff_toInt_le.mp q; rw [e0] at this; exact this))) (fun q => hk.2 (fun e => q (by have := hq.mpr e; exact Int32.le_iff_toInt_le.mpr (by rw [e0]; exact this))))
          | gt => exact z_if_gt ⟨d2, tgt_ok ht, rfl⟩ (fun q => hk.1 (hq.mp (by have := Int32.lt_iff_toInt_lt.mp q; rw [e0] at this; exact this))) (fun q => hk.2 (fun e => q (by have := hq.mpr e; exact Int32.lt_iff_toInt_lt.mpr (by rw [e0]; exact this))))
          | le => exact z_if_le ⟨d2, tgt_ok ht, rfl⟩ (fun q => hk.1 (hq.mp (by have := Int32.le_iff_toInt_le.mp q; rw [e0] at this; exact this))) (fun q => hk.2 (fun e => q (by have := hq.mpr e; exact Int32.le_iff_toInt_le.mpr (by rw [e0]; exact this))))
      · cases hst
  · cases hst
theorem s_gf {x : Nat} : St1 E Y G P Ws Wa Wp J m pc len K (.getfield x) := by
  intro s ρ σ lv st l v L hG hJ hW1 hW2 d hf hln h hl hs hst k
  cases lenOf (a := 3) hln (by decide)
  simp only [step1, disp, s1_getfield] at hst
  split at hst
  · rename_i kc st'
    obtain ⟨w1, v1, rfl, ha, hs2⟩ := hs.cons
    cases ha
    split at hst
    · rename_i ci j ty hfl
      obtain ⟨hj, fty, fin, hF, hF0, hF1, hF2⟩ := hG.fld m x ci j ty (Nat.le_of_ble_eq_true hf) hfl
      split at hst
      · rename_i cj kd t hkf
        obtain ⟨g1, g2, ⟨ll, g3, g4⟩, g5, g6⟩ := hG.kf _ _ _ _ _ hj hkf
        cases hb : Nat.beq ci cj with
        | false => rw [hb] at hst; cases hst
        | true =>
          rw [hb] at hst
          have hci := Nat.eq_of_beq_eq_true hb
          subst hci
          simp only [cond_true] at hst
          split at hst
          · cases Option.some.inj hst
            obtain ⟨ρ', p1, p2, p3, p4⟩ := rdI_ok (p := .c (j : Int)) h rfl (hJ.rd s ρ σ kc (.c (j : Int)) j h rfl (Or.inl ⟨g6, hj⟩))
            exact z_geti hF g1 g3 g2 g4 ⟨d, rfl⟩ (k.one p1 p2 Fr.rf (hl.mono p1) ⟨Rv.of_int p3 p4, hs2.mono p1⟩)
          · cases Option.some.inj hst
            obtain ⟨ρ', p1, p2, p3, p4⟩ := rdL_ok (k := kc) (j := j) (p := .c (j : Int)) h rfl (hJ.rl s ρ σ kc (.c (j : Int)) j h rfl (Or.inl ⟨g6, hj⟩))
            exact z_getj hF g1 g3 g2 g4 ⟨d, rfl⟩ (k.one p1 p2 Fr.rf (hl.mono p1) ⟨Rv.of_long p3 p4, hs2.mono p1⟩)
          · cases Option.some.inj hst
            exact z_getr hF g1 g3 g2 g4 (g5 rfl) ⟨d, rfl⟩ (k.one Pre.rf h Fr.rf hl ⟨rfl, hs2⟩)
          · cases hst
      · cases hst
    · split at hst
      · rename_i hlib
        cases hb : Nat.ble 1000 kc && Nat.blt kc 1021 with
        | false => rw [hb] at hst; cases hst
        | true =>
          rw [hb] at hst
          cases Option.some.inj hst
          rw [Bool.and_eq_true] at hb
          obtain ⟨i, rfl⟩ := Nat.exists_eq_add_of_le (Nat.le_of_ble_eq_true hb.1)
          have hi : i < 21 := by have := Nat.le_of_ble_eq_true hb.2; omega
          exact z_sgetc hi ((hG.fz m x 4 (Nat.le_of_ble_eq_true hf) hlib).2.2.1 rfl) ⟨d, rfl⟩ (k.one Pre.rf h Fr.rf hl ⟨⟨0, rfl, rfl⟩, hs2⟩)
      · rename_i hlib
        cases hb : Nat.ble 1000 kc && Nat.blt kc 1021 with
        | false => rw [hb] at hst; cases hst
        | true =>
          rw [hb] at hst
          cases Option.some.inj hst
          rw [Bool.and_eq_true] at hb
          obtain ⟨i, rfl⟩ := Nat.exists_eq_add_of_le (Nat.le_of_ble_eq_true hb.1)
          have hi : i < 21 := by have := Nat.le_of_ble_eq_true hb.2; omega
          exact z_sgetv hi ((hG.fz m x 5 (Nat.le_of_ble_eq_true hf) hlib).2.2.2.1 rfl) ⟨d, rfl⟩ (k.one Pre.rf h Fr.rf hl ⟨(show Value.ref (2000 + i) = Value.ref (1000 + i + 1000) from by rw [show 2000 + i = 1000 + i + 1000 by omega]), hs2⟩)
      · cases hst
  · cases hst
theorem s_gs {x : Nat} : St1 E Y G P Ws Wa Wp J m pc len K (.getstatic x) := by
  intro s ρ σ lv st l v L hG hJ hW1 hW2 d hf hln h hl hs hst k
  cases lenOf (a := 3) hln (by decide)
  simp only [step1, disp, s1_getstatic] at hst
  split at hst
  · rename_i hlib
    cases Option.some.inj hst
    exact z_getsC ((hG.fz m x 2 (Nat.le_of_ble_eq_true hf) hlib).1 rfl) ⟨d, rfl⟩ (k.one Pre.rf h Fr.rf hl ⟨⟨1, rfl, rfl⟩, hs⟩)
  · rename_i hlib
    cases Option.some.inj hst
    exact z_getsR ((hG.fz m x 3 (Nat.le_of_ble_eq_true hf) hlib).2.1 rfl) ⟨d, rfl⟩ (k.one Pre.rf h Fr.rf hl ⟨rfl, hs⟩)
  · cases hst
theorem s_al9 : St1 E Y G P Ws Wa Wp J m pc len K (.arraylength) := by
  intro s ρ σ lv st l v L hG hJ hW1 hW2 d hf hln h hl hs hst k
  cases lenOf (a := 1) hln (by decide)
  simp only [step1, disp, s1_arraylength] at hst
  split at hst
  · rename_i kc st'
    obtain ⟨w1, v1, rfl, ha, hs2⟩ := hs.cons
    cases ha
    cases hb : Nat.ble 2000 kc && Nat.blt kc 2021 with
    | false => rw [hb] at hst; cases hst
    | true =>
      rw [hb] at hst
      cases Option.some.inj hst
      rw [Bool.and_eq_true] at hb
      obtain ⟨i, rfl⟩ := Nat.exists_eq_add_of_le (Nat.le_of_ble_eq_true hb.1)
      have hi : i < 21 := by have := Nat.le_of_ble_eq_true hb.2; omega
      rw [Nat.add_sub_cancel_left] at k
      exact z_slen hi rfl ⟨d, rfl⟩ (k.one Pre.rf h Fr.rf hl ⟨⟨_, rfl, rfl⟩, hs2⟩)
  · cases hst
theorem rnk_in : ∀ j, j < 4 → inD (RNK.getD j 0).toInt [(0, 3)] := by
  intro j hj
  match j, hj with
  | 0, _ => exact ⟨_, List.mem_cons_self .., by decide, by decide⟩
  | 1, _ => exact ⟨_, List.mem_cons_self .., by decide, by decide⟩
  | 2, _ => exact ⟨_, List.mem_cons_self .., by decide, by decide⟩
  | 3, _ => exact ⟨_, List.mem_cons_self .., by decide, by decide⟩
theorem sby_all : ∀ i, i < 21 → ∀ j, j < 14 → (0 ≤ ((SBY.getD i []).getD j 0).toInt ∧ ((SBY.getD i []).getD j 0).toInt ≤ 127) := by decide +kernel
theorem sln_all : ∀ i, i < 21 → SLN.getD i 0 ≤ 14 := by decide +kernel
theorem sby_in {i j : Nat} (hi : i < 21) (hj : j < SLN.getD i 0) : inD ((SBY.getD i []).getD j 0).toInt [(0, 127)] := by
  have := sby_all i hi j (Nat.lt_of_lt_of_le hj (sln_all i hi))
  exact ⟨_, List.mem_cons_self .., this.1, this.2⟩
theorem s_pf {x : Nat} : St1 E Y G P Ws Wa Wp J m pc len K (.putfield x) := by
  intro s ρ σ lv st l v L hG hJ hW1 hW2 d hf hln h hl hs hst k
  cases lenOf (a := 3) hln (by decide)
  simp only [step1, disp, s1_putfield] at hst
  split at hst
  · rename_i a kc st'
    obtain ⟨w1, v1, rfl, ha, hs1⟩ := hs.cons
    obtain ⟨w2, v2, rfl, hb0, hs2⟩ := hs1.cons
    cases hb0
    split at hst
    · rename_i ci j ty hfl
      obtain ⟨hj, fty, fin, hF, hF0, hF1, hF2⟩ := hG.fld m x ci j ty (Nat.le_of_ble_eq_true hf) hfl
      split at hst
      · rename_i cj kd t hkf
        obtain ⟨g1, g2, ⟨ll, g3, g4⟩, g5, g6⟩ := hG.kf _ _ _ _ _ hj hkf
        cases hb : Nat.beq ci cj && Ws s kc (.c (j : Int)) with
        | false => rw [hb] at hst; cases hst
        | true =>
          rw [hb] at hst
          simp only [Bool.and_eq_true] at hb
          have hw : Wp kc j := hW1 kc (.c (j : Int)) j rfl hb.2
          have hci := Nat.eq_of_beq_eq_true hb.1
          subst hci
          simp only [cond_true] at hst
          split at hst
          · cases hc : a.isI with
            | false => rw [hc] at hst; cases hst
            | true =>
              rw [hc] at hst
              simp only [cond_true] at hst
              split at hst
              · rename_i s' hw'
                cases Option.some.inj hst
                obtain ⟨y, rfl, hy⟩ := ha.int hc
                obtain ⟨rfl, rfl⟩ := hF0 rfl
                exact z_puti hF g1 g3 g2 g4 rfl rfl ⟨d, rfl⟩ (k.one Pre.rf (hJ.wi s ρ σ kc (.c (j : Int)) a j y s' h rfl (Or.inl ⟨g6, hj⟩) hc hy hw') (Fr.i hw) hl hs2)
              · cases hst
          · cases hc : a.isI && dsub (dom s a) [(0, 1)] with
            | false => rw [hc] at hst; cases hst
            | true =>
              rw [hc] at hst
              simp only [cond_true] at hst
              split at hst
              · rename_i s' hw'
                cases Option.some.inj hst
                simp only [Bool.and_eq_true] at hc
                obtain ⟨y, rfl, hy⟩ := ha.int hc.1
                obtain ⟨rfl, rfl⟩ := hF1 rfl
                have hbo := j_bool (v := y) (is01 (dsub_in hc.2 (dom_i h hc.1 hy)))
                exact z_puti hF g1 g3 g2 g4 hbo.1 hbo.2 ⟨d, rfl⟩ (k.one Pre.rf (hJ.wi s ρ σ kc (.c (j : Int)) a j y s' h rfl (Or.inl ⟨g6, hj⟩) hc.1 hy hw') (Fr.i hw) hl hs2)
              · cases hst
          · cases hc : a.isL with
            | false => rw [hc] at hst; cases hst
            | true =>
              rw [hc] at hst
              simp only [cond_true] at hst
              split at hst
              · rename_i s' hw'
                cases Option.some.inj hst
                obtain ⟨y, rfl, hy⟩ := ha.long hc
                obtain ⟨rfl, rfl⟩ := hF2 rfl
                exact z_putj hF g1 g3 g2 g4 ⟨d, rfl⟩ (k.one Pre.rf (hJ.wl s ρ σ kc (.c (j : Int)) a j y s' h rfl (Or.inl ⟨g6, hj⟩) hc hy hw') (Fr.j hw) hl hs2)
              · cases hst
          · cases hst
      · cases hst
    · cases hst
  · cases hst
theorem s_iald  : St1 E Y G P Ws Wa Wp J m pc len K (.iaload) := by
  intro s ρ σ lv st l v L hG hJ hW1 hW2 d hf hln h hl hs hst k
  cases lenOf (a := 1) hln (by decide)
  simp only [step1, disp, s1_iaload] at hst
  split at hst
  · rename_i i kc st'
    obtain ⟨w1, v1, rfl, ha, hs1⟩ := hs.cons
    obtain ⟨w2, v2, rfl, hb0, hs2⟩ := hs1.cons
    cases hb0
    split at hst
    · rename_i z hka
      obtain ⟨g1, g2, g3⟩ := hG.ka _ _ _ hka
      cases hc : i.isI && inR s i 0 ((z : Int) - 1) with
      | false => rw [hc] at hst; cases hst
      | true =>
        rw [hc] at hst
        cases Option.some.inj hst
        simp only [Bool.and_eq_true] at hc
        obtain ⟨y, rfl, hy⟩ := ha.int hc.1
        have hr := inR_ok h hc.2 hy (dom_i h hc.1 hy)
        obtain ⟨q1, q2, q3⟩ := in_zr hr
        have hp := (pl_ok h hc.1 hy).trans (congrArg some q3.symm)
        have hcl := clip_ok h hc.1 hy hr
        obtain ⟨ρ', p1, p2, p3, p4⟩ := rdI_ok (k := kc) (p := pl s i) hcl hp (hJ.rd _ ρ σ kc (pl s i) _ hcl hp (Or.inr ⟨_, _, hka, q2⟩))
        exact z_iald g1 g2 q1 ⟨d, rfl⟩ (k.one p1 p2 Fr.rf (hl.mono p1) ⟨Rv.of_int p3 p4, hs2.mono p1⟩)
    · cases hst
    · cases hc : Nat.beq kc 3001 && (i.isI && inR s i 0 3) with
      | false => rw [hc] at hst; cases hst
      | true =>
        rw [hc] at hst
        cases Option.some.inj hst
        simp only [Bool.and_eq_true] at hc
        have hk := Nat.eq_of_beq_eq_true hc.1
        subst hk
        obtain ⟨y, rfl, hy⟩ := ha.int hc.2.1
        have hr := inR_ok h hc.2.2 hy (dom_i h hc.2.1 hy)
        obtain ⟨q1, q2, q3⟩ := in_zr (z := 4) (y := y) ⟨hr.1, by omega⟩
        obtain ⟨ρ', p1, p2, p3, p4⟩ := newI_ok (y := RNK.getD y.toNatClampNeg 0) h (rnk_in _ q2)
        exact z_rald q1 ⟨d, rfl⟩ (k.one p1 p2 Fr.rf (hl.mono p1) ⟨Rv.of_int p3 p4, hs2.mono p1⟩)
  · cases hst
theorem s_zald  : St1 E Y G P Ws Wa Wp J m pc len K (.baload) := by
  intro s ρ σ lv st l v L hG hJ hW1 hW2 d hf hln h hl hs hst k
  cases lenOf (a := 1) hln (by decide)
  simp only [step1, disp, s1_baload] at hst
  split at hst
  · rename_i i kc st'
    obtain ⟨w1, v1, rfl, ha, hs1⟩ := hs.cons
    obtain ⟨w2, v2, rfl, hb0, hs2⟩ := hs1.cons
    cases hb0
    split at hst
    · rename_i z hka
      obtain ⟨g1, g2, g3⟩ := hG.ka _ _ _ hka
      cases hc : i.isI && inR s i 0 ((z : Int) - 1) with
      | false => rw [hc] at hst; cases hst
      | true =>
        rw [hc] at hst
        cases Option.some.inj hst
        simp only [Bool.and_eq_true] at hc
        obtain ⟨y, rfl, hy⟩ := ha.int hc.1
        have hr := inR_ok h hc.2 hy (dom_i h hc.1 hy)
        obtain ⟨q1, q2, q3⟩ := in_zr hr
        have hp := (pl_ok h hc.1 hy).trans (congrArg some q3.symm)
        have hcl := clip_ok h hc.1 hy hr
        obtain ⟨ρ', p1, p2, p3, p4⟩ := rdI_ok (k := kc) (p := pl s i) hcl hp (hJ.rd _ ρ σ kc (pl s i) _ hcl hp (Or.inr ⟨_, _, hka, q2⟩))
        exact z_zald g1 g2 q1 ⟨d, rfl⟩ (k.one p1 p2 Fr.rf (hl.mono p1) ⟨Rv.of_int p3 p4, hs2.mono p1⟩)
    · cases hst
    · cases hc : (Nat.ble 2000 kc && Nat.blt kc 2021) && (i.isI && inR s i 0 (((SLN.getD (kc - 2000) 0 : Nat) : Int) - 1)) with
      | false => rw [hc] at hst; cases hst
      | true =>
        rw [hc] at hst
        simp only [Bool.and_eq_true] at hc
        obtain ⟨i2, rfl⟩ := Nat.exists_eq_add_of_le (Nat.le_of_ble_eq_true hc.1.1)
        have hi : i2 < 21 := by have := Nat.le_of_ble_eq_true hc.1.2; omega
        rw [Nat.add_sub_cancel_left] at hc hst
        obtain ⟨y, rfl, hy⟩ := ha.int hc.2.1
        have hr := inR_ok h hc.2.2 hy (dom_i h hc.2.1 hy)
        obtain ⟨q1, q2, q3⟩ := in_zr hr
        have hp := pl_ok h hc.2.1 hy
        simp only [cond_true] at hst
        split at hst
        · rename_i j hj
          cases Option.some.inj hst
          rw [hj] at hp
          have e : ((j : Nat) : Int) = y.toInt := Option.some.inj hp
          have e2 : y.toNatClampNeg = j := by omega
          rw [← e2] at k
          exact z_sald hi q1 ⟨d, rfl⟩ (k.one Pre.rf h Fr.rf hl ⟨⟨_, rfl, rfl⟩, hs2⟩)
        · cases Option.some.inj hst
          obtain ⟨ρ', p1, p2, p3, p4⟩ := newI_ok (y := (SBY.getD i2 []).getD y.toNatClampNeg 0) h (sby_in hi q2)
          exact z_sald hi q1 ⟨d, rfl⟩ (k.one p1 p2 Fr.rf (hl.mono p1) ⟨Rv.of_int p3 p4, hs2.mono p1⟩)
  · cases hst
theorem s_lald  : St1 E Y G P Ws Wa Wp J m pc len K (.laload) := by
  intro s ρ σ lv st l v L hG hJ hW1 hW2 d hf hln h hl hs hst k
  cases lenOf (a := 1) hln (by decide)
  simp only [step1, disp, s1_laload] at hst
  split at hst
  · rename_i i kc st'
    obtain ⟨w1, v1, rfl, ha, hs1⟩ := hs.cons
    obtain ⟨w2, v2, rfl, hb0, hs2⟩ := hs1.cons
    cases hb0
    split at hst
    · rename_i z hka
      obtain ⟨g1, g2, g3⟩ := hG.ka _ _ _ hka
      cases hc : i.isI && inR s i 0 ((z : Int) - 1) with
      | false => rw [hc] at hst; cases hst
      | true =>
        rw [hc] at hst
        cases Option.some.inj hst
        simp only [Bool.and_eq_true] at hc
        obtain ⟨y, rfl, hy⟩ := ha.int hc.1
        have hr := inR_ok h hc.2 hy (dom_i h hc.1 hy)
        obtain ⟨q1, q2, q3⟩ := in_zr hr
        have hp := (pl_ok h hc.1 hy).trans (congrArg some q3.symm)
        have hcl := clip_ok h hc.1 hy hr
        obtain ⟨ρ', p1, p2, p3, p4⟩ := rdL_ok (k := kc) (p := pl s i) hcl hp (hJ.rl _ ρ σ kc (pl s i) _ hcl hp (Or.inr ⟨_, _, hka, q2⟩))
        exact z_lald g1 g2 q1 ⟨d, rfl⟩ (k.one p1 p2 Fr.rf (hl.mono p1) ⟨Rv.of_long p3 p4, hs2.mono p1⟩)
    · cases hst
  · rename_i i b n st'
    obtain ⟨w1, v1, rfl, ha, hs1⟩ := hs.cons
    obtain ⟨w2, v2, rfl, hb0, hs2⟩ := hs1.cons
    obtain ⟨kc, rfl, hr1, hr2⟩ := hb0
    split at hst
    · rename_i z hka
      cases hc : (i.isI && rrz G z b n) && inR s i 0 ((z : Int) - 1) with
      | false => rw [hc] at hst; cases hst
      | true =>
        rw [hc] at hst
        cases Option.some.inj hst
        simp only [Bool.and_eq_true] at hc
        obtain ⟨g1, g2, g3⟩ := hG.ka _ _ _ (rrz_ok hc.1.2 hr1 hr2)
        obtain ⟨y, rfl, hy⟩ := ha.int hc.1.1
        obtain ⟨q1, q2, q3⟩ := in_zr (inR_ok h hc.2 hy (dom_i h hc.1.1 hy))
        obtain ⟨ρ', p1, p2, p3, p4⟩ := newL_ok (y := σ.2 kc y.toNatClampNeg) h (in64 _)
        exact z_lald g1 g2 q1 ⟨d, rfl⟩ (k.one p1 p2 Fr.rf (hl.mono p1) ⟨Rv.of_long p3 p4, hs2.mono p1⟩)
    · cases hst
  · cases hst
theorem s_iast  : St1 E Y G P Ws Wa Wp J m pc len K (.iastore) := by
  intro s ρ σ lv st l v L hG hJ hW1 hW2 d hf hln h hl hs hst k
  cases lenOf (a := 1) hln (by decide)
  simp only [step1, disp, s1_iastore] at hst
  split at hst
  · rename_i a i kc st'
    obtain ⟨w0, v0, rfl, hv0, hs0⟩ := hs.cons
    obtain ⟨w1, v1, rfl, ha, hs1⟩ := hs0.cons
    obtain ⟨w2, v2, rfl, hb0, hs2⟩ := hs1.cons
    cases hb0
    split at hst
    · rename_i z hka
      obtain ⟨g1, g2, g3⟩ := hG.ka _ _ _ hka
      cases hc : (i.isI && a.isI) && (inR s i 0 ((z : Int) - 1) && Ws s kc (pl s i)) with
      | false => rw [hc] at hst; cases hst
      | true =>
        rw [hc] at hst
        simp only [cond_true] at hst
        split at hst
        · rename_i s' hw'
          cases Option.some.inj hst
          simp only [Bool.and_eq_true] at hc
          obtain ⟨y, rfl, hy⟩ := ha.int hc.1.1
          obtain ⟨x, rfl, hx⟩ := hv0.int hc.1.2
          have hr := inR_ok h hc.2.1 hy (dom_i h hc.1.1 hy)
          obtain ⟨q1, q2, q3⟩ := in_zr hr
          have hp := (pl_ok h hc.1.1 hy).trans (congrArg some q3.symm)
          have hw : Wp kc y.toNatClampNeg := hW1 kc (pl s i) _ hp hc.2.2
          have hcl := clip_ok h hc.1.1 hy hr
          have hok := hJ.wi _ ρ σ kc (pl s i) a _ x s' hcl hp (Or.inr ⟨_, _, hka, q2⟩) hc.1.2 hx hw'
          exact z_iast g1 g2 q1 ⟨d, rfl⟩ (k.one Pre.rf hok (Fr.i hw) hl hs2)
        · cases hst
    · cases hst
  · cases hst
theorem s_zast  : St1 E Y G P Ws Wa Wp J m pc len K (.bastore) := by
  intro s ρ σ lv st l v L hG hJ hW1 hW2 d hf hln h hl hs hst k
  cases lenOf (a := 1) hln (by decide)
  simp only [step1, disp, s1_bastore] at hst
  split at hst
  · rename_i a i kc st'
    obtain ⟨w0, v0, rfl, hv0, hs0⟩ := hs.cons
    obtain ⟨w1, v1, rfl, ha, hs1⟩ := hs0.cons
    obtain ⟨w2, v2, rfl, hb0, hs2⟩ := hs1.cons
    cases hb0
    split at hst
    · rename_i z hka
      obtain ⟨g1, g2, g3⟩ := hG.ka _ _ _ hka
      cases hc : (i.isI && a.isI) && (inR s i 0 ((z : Int) - 1) && (dsub (dom s a) [(0, 1)] && Ws s kc (pl s i))) with
      | false => rw [hc] at hst; cases hst
      | true =>
        rw [hc] at hst
        simp only [cond_true] at hst
        split at hst
        · rename_i s' hw'
          cases Option.some.inj hst
          simp only [Bool.and_eq_true] at hc
          obtain ⟨y, rfl, hy⟩ := ha.int hc.1.1
          obtain ⟨x, rfl, hx⟩ := hv0.int hc.1.2
          have hr := inR_ok h hc.2.1 hy (dom_i h hc.1.1 hy)
          obtain ⟨q1, q2, q3⟩ := in_zr hr
          have hp := (pl_ok h hc.1.1 hy).trans (congrArg some q3.symm)
          have hw : Wp kc y.toNatClampNeg := hW1 kc (pl s i) _ hp hc.2.2.2
          have hcl := clip_ok h hc.1.1 hy hr
          have hok := hJ.wi _ ρ σ kc (pl s i) a _ x s' hcl hp (Or.inr ⟨_, _, hka, q2⟩) hc.1.2 hx hw'
          have hbo : vp_nar .boolean x = x := by
            rcases is01 (dsub_in hc.2.2.1 (dom_i h hc.1.2 hx)) with rfl | rfl <;> rfl
          refine z_zast g1 g2 q1 ⟨d, rfl⟩ ?_
          rw [hbo]
          exact k.one Pre.rf hok (Fr.i hw) hl hs2
        · cases hst
    · cases hst
  · cases hst
theorem s_last  : St1 E Y G P Ws Wa Wp J m pc len K (.lastore) := by
  intro s ρ σ lv st l v L hG hJ hW1 hW2 d hf hln h hl hs hst k
  cases lenOf (a := 1) hln (by decide)
  simp only [step1, disp, s1_lastore] at hst
  split at hst
  · rename_i a i kc st'
    obtain ⟨w0, v0, rfl, hv0, hs0⟩ := hs.cons
    obtain ⟨w1, v1, rfl, ha, hs1⟩ := hs0.cons
    obtain ⟨w2, v2, rfl, hb0, hs2⟩ := hs1.cons
    cases hb0
    split at hst
    · rename_i z hka
      obtain ⟨g1, g2, g3⟩ := hG.ka _ _ _ hka
      cases hc : (i.isI && a.isL) && (inR s i 0 ((z : Int) - 1) && Ws s kc (pl s i)) with
      | false => rw [hc] at hst; cases hst
      | true =>
        rw [hc] at hst
        simp only [cond_true] at hst
        split at hst
        · rename_i s' hw'
          cases Option.some.inj hst
          simp only [Bool.and_eq_true] at hc
          obtain ⟨y, rfl, hy⟩ := ha.int hc.1.1
          obtain ⟨x, rfl, hx⟩ := hv0.long hc.1.2
          have hr := inR_ok h hc.2.1 hy (dom_i h hc.1.1 hy)
          obtain ⟨q1, q2, q3⟩ := in_zr hr
          have hp := (pl_ok h hc.1.1 hy).trans (congrArg some q3.symm)
          have hw : Wp kc y.toNatClampNeg := hW1 kc (pl s i) _ hp hc.2.2
          have hcl := clip_ok h hc.1.1 hy hr
          have hok := hJ.wl _ ρ σ kc (pl s i) a _ x s' hcl hp (Or.inr ⟨_, _, hka, q2⟩) hc.1.2 hx hw'
          exact z_last g1 g2 q1 ⟨d, rfl⟩ (k.one Pre.rf hok (Fr.j hw) hl hs2)
        · cases hst
    · cases hst
  · rename_i a i b n st'
    obtain ⟨w0, v0, rfl, hv0, hs0⟩ := hs.cons
    obtain ⟨w1, v1, rfl, ha, hs1⟩ := hs0.cons
    obtain ⟨w2, v2, rfl, hb0, hs2⟩ := hs1.cons
    obtain ⟨kc, rfl, hr1, hr2⟩ := hb0
    split at hst
    · rename_i z hka
      cases hc : ((i.isI && a.isL) && (rrz G z b n && rrw Wa P.fr b n)) && inR s i 0 ((z : Int) - 1) with
      | false => rw [hc] at hst; cases hst
      | true =>
        rw [hc] at hst
        cases Option.some.inj hst
        simp only [Bool.and_eq_true] at hc
        have hkc := rrz_ok hc.1.2.1 hr1 hr2
        obtain ⟨g1, g2, g3⟩ := hG.ka _ _ _ hkc
        obtain ⟨y, rfl, hy⟩ := ha.int hc.1.1.1
        obtain ⟨x, rfl, hx⟩ := hv0.long hc.1.1.2
        obtain ⟨q1, q2, q3⟩ := in_zr (inR_ok h hc.2 hy (dom_i h hc.1.1.1 hy))
        have hw : Wp kc y.toNatClampNeg := hW2 kc _ (rrw_ok hc.1.2.2 hr1 hr2).1
        exact z_last g1 g2 q1 ⟨d, rfl⟩ (k.one Pre.rf (kill_ok h hr1 hr2 (fun H q => hJ.fr H σ kc (vp_updL (σ.2 kc) _ x) (rrw_ok hc.1.2.2 hr1 hr2).2 q)) (Fr.j hw) hl hs2)
    · cases hst
  · cases hst
theorem s_aald  : St1 E Y G P Ws Wa Wp J m pc len K (.aaload) := by
  intro s ρ σ lv st l v L hG hJ hW1 hW2 d hf hln h hl hs hst k
  cases lenOf (a := 1) hln (by decide)
  simp only [step1, disp, s1_aaload] at hst
  split at hst
  · rename_i i kc st'
    obtain ⟨w1, v1, rfl, ha, hs1⟩ := hs.cons
    obtain ⟨w2, v2, rfl, hb0, hs2⟩ := hs1.cons
    cases hb0
    split at hst
    · rename_i z b n hka hkr
      obtain ⟨g1, g2, g3⟩ := hG.ka _ _ _ hka
      obtain ⟨z', hz', hr⟩ := hG.kr _ _ _ hkr
      have hzz : z' = z := by
        rw [hka] at hz'
        cases hz'
        rfl
      subst hzz
      cases hc : i.isI && inR s i 0 ((z' : Int) - 1) with
      | false => rw [hc] at hst; cases hst
      | true =>
        rw [hc] at hst
        cases Option.some.inj hst
        simp only [Bool.and_eq_true] at hc
        obtain ⟨y, rfl, hy⟩ := ha.int hc.1
        obtain ⟨q1, q2, q3⟩ := in_zr (inR_ok h hc.2 hy (dom_i h hc.1 hy))
        obtain ⟨q, r1, r2, r3⟩ := hr _ q2
        exact z_aald g1 g2 q1 r1 ⟨d, rfl⟩ (k.one Pre.rf h Fr.rf hl ⟨⟨q, rfl, r2, r3⟩, hs2⟩)
    · cases hst
  · cases hst
theorem s_tsw {dd lo hi : Int} {offs0 : Array Int} : St1 E Y G P Ws Wa Wp J m pc len K (.tableswitch dd lo hi offs0) := by
  intro s ρ σ lv st l v L hG hJ hW1 hW2 d hf hln h hl hs hst k
  simp only [step1, disp, s1_tableswitch] at hst
  split at hst
  · rename_i a st'
    obtain ⟨w1, v1, rfl, ha, hs2⟩ := hs.cons
    cases hc : a.isI with
    | false => rw [hc] at hst; cases hst
    | true =>
      rw [hc] at hst
      obtain ⟨x, rfl, hx⟩ := ha.int hc
      simp only [cond_true] at hst
      split at hst
      · rename_i t L0 ht hL
        cases hq : ile (lo + (offs0.toList.length : Int)) (hi + 1) && ile (hi + 1) (lo + (offs0.toList.length : Int)) with
        | false => rw [hq] at hst; cases hst
        | true =>
          rw [hq] at hst
          have hq := and_ile hq
          by_cases h1 : x.toInt < lo ∨ hi < x.toInt
          · obtain ⟨s', m1, m2⟩ := swd_ok (t := t) (lv := lv) (st := st') h hx (dom_i h hc hx) h1
            cases Option.some.inj hst
            exact z_tableOut d h1 (tgt_ok ht) (k _ (List.mem_append_left _ m1) ρ σ l v1 Pre.rf m2 Fr.rf hl hs2)
          · obtain ⟨off, t', s', r1, r2, r3, r4⟩ := tswGo_ok h hx (dom_i h hc hx) offs0.toList lo L0 hL (by omega) (by omega)
            cases Option.some.inj hst
            exact z_tableIn (off := off) d (by omega) (by omega) (by simpa using r1) (tgt_ok r2) (k _ (List.mem_append_right _ r3) ρ σ l v1 Pre.rf r4 Fr.rf hl hs2)
      · cases hst
  · cases hst
theorem s_lsw {dd : Int} {ps0 : Array (Int × Int)} : St1 E Y G P Ws Wa Wp J m pc len K (.lookupswitch dd ps0) := by
  intro s ρ σ lv st l v L hG hJ hW1 hW2 d hf hln h hl hs hst k
  simp only [step1, disp, s1_lookupswitch] at hst
  split at hst
  · rename_i a st'
    obtain ⟨w1, v1, rfl, ha, hs2⟩ := hs.cons
    cases hc : a.isI && (ps0.toList.zip (ps0.toList.drop 1)).all (fun (a, next) => decide (a.1 < next.1)) with
    | false => rw [hc] at hst; cases hst
    | true =>
      rw [hc] at hst
      simp only [Bool.and_eq_true] at hc
      obtain ⟨x, rfl, hx⟩ := ha.int hc.1
      simp only [cond_true] at hst
      cases ht : tgt pc dd with
      | none => rw [ht] at hst; cases hst
      | some t =>
        rw [ht] at hst
        obtain ⟨t', s', r1, r2, r3⟩ := lswGo_ok (d := dd) hc.1 hx ht ps0.toList s L h hst
        exact z_lookup (tgt := t') d hc.2 rfl r1 (k _ r2 ρ σ l v1 Pre.rf r3 Fr.rf hl hs2)
  · cases hst
theorem z_mmax {E : xV} {Y : xY} {pc pc' idx : Nat} {lv : List (Nat × Value)} {st : List Value} {σ : zS} {K : zKt} {x y : Int32} (w1 : Cond.methodLink Y.1.cls idx Lib.Math.max.name ∈ TBg) (w2 : Cond.static Lib.Math.max.name ∈ TBg) (w3 : Cond.initialized "java/lang/Math" ∈ TBg) (w4 : Cond.code Lib.Math.max.name Lib.Math.max.code 2 (some .int) ∈ TBg) (hfr : 1 ≤ Y.2.2.2.2.frames) (hlo : 40 ≤ Y.2.2.2.2.locals) (hcat : (st.map fun v => v.category).sum ≤ 8) (d : decode Y.2.1 pc = .ok (.invokestatic idx, 3) ∧ pc + 3 = pc') (k : Wz E Y pc' lv (.int (if x < y then y else x) :: st) σ K) : Wz E Y pc lv (.int y :: .int x :: st) σ K := by
  obtain ⟨d, rfl⟩ := d
  intro p e R s m args below meth c H locs ls a0 n0 a hC hn hg hH hS hl
  have hts := hC.2.2.2.2.2.1
  obtain ⟨hR1, hR2, hR3, hR4, -⟩ := hC.2.2.2.2.2.2.2.2.2.2
  refine va_mmax hC.1 hC.2.1 (hC.2.2.2.1.trans hl.1.symm) hC.2.2.2.2.1 (hts _ w1) (hts _ w2) (hts _ w3) (hts _ w4) (Nat.le_trans hfr hR1) ?_ (Nat.zero_le _) (Nat.zero_le _) d (k p e R s m args below meth c H locs ls a0 n0 a hC hn hg hH hS hl)
  rw [xst_cat]
  exact Nat.le_trans (by omega) (Nat.le_trans hlo hR2)
theorem z_mmin {E : xV} {Y : xY} {pc pc' idx : Nat} {lv : List (Nat × Value)} {st : List Value} {σ : zS} {K : zKt} {x y : Int32} (w1 : Cond.methodLink Y.1.cls idx Lib.Math.min.name ∈ TBg) (w2 : Cond.static Lib.Math.min.name ∈ TBg) (w3 : Cond.initialized "java/lang/Math" ∈ TBg) (w4 : Cond.code Lib.Math.min.name Lib.Math.min.code 2 (some .int) ∈ TBg) (hfr : 1 ≤ Y.2.2.2.2.frames) (hlo : 40 ≤ Y.2.2.2.2.locals) (hcat : (st.map fun v => v.category).sum ≤ 8) (d : decode Y.2.1 pc = .ok (.invokestatic idx, 3) ∧ pc + 3 = pc') (k : Wz E Y pc' lv (.int (if y < x then y else x) :: st) σ K) : Wz E Y pc lv (.int y :: .int x :: st) σ K := by
  obtain ⟨d, rfl⟩ := d
  intro p e R s m args below meth c H locs ls a0 n0 a hC hn hg hH hS hl
  have hts := hC.2.2.2.2.2.1
  obtain ⟨hR1, hR2, hR3, hR4, -⟩ := hC.2.2.2.2.2.2.2.2.2.2
  refine va_mmin hC.1 hC.2.1 (hC.2.2.2.1.trans hl.1.symm) hC.2.2.2.2.1 (hts _ w1) (hts _ w2) (hts _ w3) (hts _ w4) (Nat.le_trans hfr hR1) ?_ (Nat.zero_le _) (Nat.zero_le _) d (k p e R s m args below meth c H locs ls a0 n0 a hC hn hg hH hS hl)
  rw [xst_cat]
  exact Nat.le_trans (by omega) (Nat.le_trans hlo hR2)
theorem s_iz {x : Nat} : St1 E Y G P Ws Wa Wp J m pc len K (.invokestatic x) := by
  intro s ρ σ lv st l v L hG hJ hW1 hW2 d hf hln h hl hs hst k
  cases lenOf (a := 3) hln (by decide)
  simp only [step1, disp, s1_invokestatic] at hst
  split at hst
  · rename_i n dp k1 sp k0 st' hlib
    obtain ⟨w1, v1, rfl, h1, hs1⟩ := hs.cons
    obtain ⟨w2, v2, rfl, h2, hs2⟩ := hs1.cons
    obtain ⟨w3, v3, rfl, h3, hs3⟩ := hs2.cons
    obtain ⟨w4, v4, rfl, h4, hs4⟩ := hs3.cons
    obtain ⟨w5, v5, rfl, h5, hs5⟩ := hs4.cons
    cases h3
    cases h5
    split at hst
    · rename_i z0 z1 a0 a1
      cases hc : (copyOk s sp n z0 && copyOk s dp n z1) && ((P.cp k0 k1 && Wa k1) && Nat.ble (catl st') 8) with
      | false => rw [hc] at hst; cases hst
      | true =>
        rw [hc] at hst
        cases Option.some.inj hst
        simp only [Bool.and_eq_true] at hc
        obtain ⟨⟨c9, c8⟩, ⟨i4, i5⟩, i6⟩ := hc
        obtain ⟨i1, i2⟩ := copyOk_I c9
        obtain ⟨i3, -⟩ := copyOk_I c8
        obtain ⟨x1, rfl, e1⟩ := h1.int i2
        obtain ⟨x2, rfl, e2⟩ := h2.int i3
        obtain ⟨x4, rfl, e4⟩ := h4.int i1
        obtain ⟨m1, m2, m3⟩ := copyOk_ok h c9 e4 e1
        obtain ⟨m4, -, m5⟩ := copyOk_ok h c8 e2 e1
        obtain ⟨g1, g2, -⟩ := hG.ka _ _ _ a0
        obtain ⟨g3, g4, -⟩ := hG.ka _ _ _ a1
        obtain ⟨⟨c1, c2⟩, c3, c4⟩ := hG.copy m x (Nat.le_of_ble_eq_true hf) hlib
        have nn : ∀ q : Int32, 0 ≤ q.toInt → ¬ q < 0 ∧ ((q.toNatClampNeg : Nat) : Int) = q.toInt := fun q hq => ⟨fun e => by
          have := Int32.lt_iff_toInt_lt.mp e
          have e0 : (0 : Int32).toInt = 0 := by decide
          omega, by
          show ((q.toInt.toNat : Nat) : Int) = q.toInt
          omega⟩
        obtain ⟨n1, n2⟩ := nn x1 (by omega)
        obtain ⟨n3, n4⟩ := nn x2 (by omega)
        obtain ⟨n5, n6⟩ := nn x4 (by omega)
        have hw : ∀ j, Wp k1 j := fun j => hW2 k1 j i5
        refine z_copyi c1 c2 c3 c4 g1 g3 g2 g4 ⟨n5, n3, n1, by omega, by omega⟩ (hG.rm m).1 (hG.rm m).2 ?_ ⟨d, rfl⟩ (k.one Pre.rf (forget_ok h (fun H q => hJ.cp H σ k0 k1 z0 z1 _ i4 a0 a1 q ?_)) (Fr.r hw) hl hs5)
        · rw [catl_ok hs5]
          exact Nat.le_of_ble_eq_true i6
        · intro j hj
          unfold va_cpy
          split
          · exact Or.inl ⟨_, by omega, rfl⟩
          · exact Or.inr rfl
    · rename_i z0 z1 a0 a1
      cases hc : (copyOk s sp n z0 && copyOk s dp n z1) && ((P.fr k1 && Wa k1) && Nat.ble (catl st') 8) with
      | false => rw [hc] at hst; cases hst
      | true =>
        rw [hc] at hst
        cases Option.some.inj hst
        simp only [Bool.and_eq_true] at hc
        obtain ⟨⟨c9, c8⟩, ⟨i4, i5⟩, i6⟩ := hc
        obtain ⟨i1, i2⟩ := copyOk_I c9
        obtain ⟨i3, -⟩ := copyOk_I c8
        obtain ⟨x1, rfl, e1⟩ := h1.int i2
        obtain ⟨x2, rfl, e2⟩ := h2.int i3
        obtain ⟨x4, rfl, e4⟩ := h4.int i1
        obtain ⟨m1, m2, m3⟩ := copyOk_ok h c9 e4 e1
        obtain ⟨m4, -, m5⟩ := copyOk_ok h c8 e2 e1
        obtain ⟨g1, g2, -⟩ := hG.ka _ _ _ a0
        obtain ⟨g3, g4, -⟩ := hG.ka _ _ _ a1
        obtain ⟨⟨c1, c2⟩, c3, c4⟩ := hG.copy m x (Nat.le_of_ble_eq_true hf) hlib
        have nn : ∀ q : Int32, 0 ≤ q.toInt → ¬ q < 0 ∧ ((q.toNatClampNeg : Nat) : Int) = q.toInt := fun q hq => ⟨fun e => by
          have := Int32.lt_iff_toInt_lt.mp e
          have e0 : (0 : Int32).toInt = 0 := by decide
          omega, by
          show ((q.toInt.toNat : Nat) : Int) = q.toInt
          omega⟩
        obtain ⟨n1, n2⟩ := nn x1 (by omega)
        obtain ⟨n3, n4⟩ := nn x2 (by omega)
        obtain ⟨n5, n6⟩ := nn x4 (by omega)
        have hw : ∀ j, Wp k1 j := fun j => hW2 k1 j i5
        refine z_copyl c1 c2 c3 c4 g1 g3 g2 g4 ⟨n5, n3, n1, by omega, by omega⟩ (hG.rm m).1 (hG.rm m).2 ?_ ⟨d, rfl⟩ (k.one Pre.rf (forgetL_ok h (fun H q => hJ.fr H σ k1 _ i4 q)) (Fr.rl hw) hl hs5)
        rw [catl_ok hs5]
        exact Nat.le_of_ble_eq_true i6
    · cases hst
  · rename_i b a st' hlib
    obtain ⟨w1, v1, rfl, hb, hs1⟩ := hs.cons
    obtain ⟨w2, v2, rfl, ha, hs2⟩ := hs1.cons
    cases hc : (a.isI && b.isI) && Nat.ble (catl st') 8 with
    | false => rw [hc] at hst; cases hst
    | true =>
      rw [hc] at hst
      cases Option.some.inj hst
      simp only [Bool.and_eq_true] at hc
      obtain ⟨x1, rfl, hx⟩ := ha.int hc.1.1
      obtain ⟨y1, rfl, hy⟩ := hb.int hc.1.2
      obtain ⟨c1, c2, c3, c4⟩ := (hG.fz m x 6 (Nat.le_of_ble_eq_true hf) hlib).2.2.2.2.1 rfl
      refine z_mmax c1 c2 c3 c4 (hG.rm m).1 (hG.rm m).2 (by rw [catl_ok hs2]; exact Nat.le_of_ble_eq_true hc.2) ⟨d, rfl⟩ ?_
      by_cases q : x1 < y1
      · rw [if_pos q]
        obtain ⟨s', e1, e2⟩ := Sy.cut_ok (c := .lt) h hx hy (dom_i h hc.1.1 hx) (dom_i h hc.1.2 hy) (Int32.lt_iff_toInt_lt.mp q)
        exact k (s', (pc + 3, (lv, b :: st'))) (List.mem_append_left _ (by rw [e1]; exact List.mem_cons_self ..)) ρ σ l _ Pre.rf e2 Fr.rf hl ⟨hb, hs2⟩
      · rw [if_neg q]
        obtain ⟨s', e1, e2⟩ := Sy.cut_ok (c := .ge) h hx hy (dom_i h hc.1.1 hx) (dom_i h hc.1.2 hy) (show y1.toInt ≤ x1.toInt from Int.not_lt.mp (fun e => q (Int32.lt_iff_toInt_lt.mpr e)))
        exact k (s', (pc + 3, (lv, a :: st'))) (List.mem_append_right _ (by rw [e1]; exact List.mem_cons_self ..)) ρ σ l _ Pre.rf e2 Fr.rf hl ⟨ha, hs2⟩
  · rename_i b a st' hlib
    obtain ⟨w1, v1, rfl, hb, hs1⟩ := hs.cons
    obtain ⟨w2, v2, rfl, ha, hs2⟩ := hs1.cons
    cases hc : (a.isI && b.isI) && Nat.ble (catl st') 8 with
    | false => rw [hc] at hst; cases hst
    | true =>
      rw [hc] at hst
      cases Option.some.inj hst
      simp only [Bool.and_eq_true] at hc
      obtain ⟨x1, rfl, hx⟩ := ha.int hc.1.1
      obtain ⟨y1, rfl, hy⟩ := hb.int hc.1.2
      obtain ⟨c1, c2, c3, c4⟩ := (hG.fz m x 7 (Nat.le_of_ble_eq_true hf) hlib).2.2.2.2.2 rfl
      refine z_mmin c1 c2 c3 c4 (hG.rm m).1 (hG.rm m).2 (by rw [catl_ok hs2]; exact Nat.le_of_ble_eq_true hc.2) ⟨d, rfl⟩ ?_
      by_cases q : y1 < x1
      · rw [if_pos q]
        obtain ⟨s', e1, e2⟩ := Sy.cut_ok (c := .gt) h hx hy (dom_i h hc.1.1 hx) (dom_i h hc.1.2 hy) (show y1.toInt < x1.toInt from Int32.lt_iff_toInt_lt.mp q)
        exact k (s', (pc + 3, (lv, b :: st'))) (List.mem_append_left _ (by rw [e1]; exact List.mem_cons_self ..)) ρ σ l _ Pre.rf e2 Fr.rf hl ⟨hb, hs2⟩
      · rw [if_neg q]
        obtain ⟨s', e1, e2⟩ := Sy.cut_ok (c := .le) h hx hy (dom_i h hc.1.1 hx) (dom_i h hc.1.2 hy) (show x1.toInt ≤ y1.toInt from Int.not_lt.mp (fun e => q (Int32.lt_iff_toInt_lt.mpr e)))
        exact k (s', (pc + 3, (lv, a :: st'))) (List.mem_append_right _ (by rw [e1]; exact List.mem_cons_self ..)) ρ σ l _ Pre.rf e2 Fr.rf hl ⟨ha, hs2⟩
  · cases hst
end E6
end
