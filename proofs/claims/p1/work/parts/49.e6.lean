/-! ===== ENGINE 10: the whole walk; methods by contract ===== -/
section E10
variable {E : xV} {Y : Nat → xY} {G : Gx} {J : zS → Prop} {r : Nat} {c : Ct} {mu0 : List (Nat × Int) × Int} {fin : Sy → Option AV → Bool} {ρ0 : List Int} {σ0 : zS} {K : zKt} {M0 : Int}
theorem s_as {W : Nat → Bool} {m pc len i : Nat} : St1 E Y G.g W J m pc len K (.as i) := by
  intro s ρ σ lv st l v L hG hJ d hf hln h hl hs hst k
  cases hst
theorem roomOk_ok (hG : GxOk Y G) {m z : Nat} {args : List AV} (h : roomOk G m z args = true) : zRm (Y m) (Y z) ∧ plainName (Y z).1.cls = true ∧ cats args ≤ (Y z).2.2.1 := by
  unfold roomOk at h
  split at h
  · rename_i fr lo q1 fz lz nl q2 h1 h2
    obtain ⟨nl1, t1, c1⟩ := q1
    obtain ⟨t2, c2⟩ := q2
    simp only [Bool.and_eq_true] at h
    obtain ⟨⟨a1, a2, a3, a4⟩, _⟩ := hG.room _ _ _ _ _ _ h1
    obtain ⟨⟨b1, b2, b3, b4⟩, ⟨b5, b6⟩, _⟩ := hG.room _ _ _ _ _ _ h2
    have g1 := Nat.le_of_ble_eq_true h.1.1
    have g2 := Nat.le_of_ble_eq_true h.1.2
    have g3 := Nat.le_of_ble_eq_true h.2
    refine ⟨⟨⟨by rw [b1, a1]; exact g1, by rw [b5, b2, a2]; exact g2⟩, b3, b4⟩, b6, by rw [b5]; exact g3⟩
  · cases h
theorem callW_ok (hG : GxOk Y G) (H : Hy E Y G J r c mu0 fin ρ0 σ0 K M0) {w : Wk} (hw : WS E Y G J r c ρ0 σ0 K w) {s : Sy} {f : Fm} {fs : List Fm} {z : Nat} {args rest : List AV} {ρ : List Int} {σ : zS} {l : List (Nat × Value)} {av vr : List Value} {cs : Cfr} (h : callW G r c mu0 w s f fs z args rest = true) (hb : botm f.m fs = r) (hp : Pre ρ0 ρ) (ho : Ok J s ρ σ) (hf : Fr G.g c.W σ0 σ) (hl : Rl ρ f.lv l) (ha : Rs ρ args av) (hs : Rs ρ rest vr) (hr : Rf ρ fs cs) :
    (zRm (Y f.m) (Y z) ∧ (vr.map fun v => v.category).sum ≤ 8 ∧ (l.all fun q => xokv 215 q.2) = true ∧ (vr.all (xokv 215)) = true) ∧ Cz E (Y z) av σ (fun v σ' => Wz E (Y f.m) (f.pc + 3) l (v.toList ++ vr) σ' (Kf E Y fs cs K)) := by
  unfold callW at h
  cases h0 : okfr f.lv rest && roomOk G f.m z args with
  | false => rw [h0] at h; cases h
  | true =>
    rw [h0] at h
    simp only [Bool.and_eq_true, okfr] at h0
    obtain ⟨q1, q2, q3⟩ := roomOk_ok hG h0.2
    refine ⟨⟨q1, by rw [cats_ok hs]; exact Nat.le_of_ble_eq_true h0.1.2.2, okl_ok hl h0.1.1, oks_ok hs h0.1.2.1⟩, ?_⟩
    simp only [cond_true] at h
    split at h
    · refine z_entry q2 (fun a => by rw [sl_len, cats_ok ha]; exact q3) rfl ?_
      exact hw s ⟨z, 0, argLv 0 args, []⟩ (⟨f.m, f.pc + 3, f.lv, rest⟩ :: fs) ρ σ (lv_args 0 av) [] ((l, vr) :: cs) h hb hp ho hf (argLv_ok ha) trivial ⟨⟨hl, hs⟩, hr⟩
    · split at h
      · rename_i q hq
        rw [Bool.and_eq_true] at h
        have hz : z < r := Nat.le_of_ble_eq_true h.1
        have h2 := h.2
        unfold ctW at h2
        cases hws : !(q.any) && wsub q.w c.W with
        | false => rw [hws] at h2; cases h2
        | true =>
          rw [hws] at h2
          simp only [cond_true] at h2
          simp only [Bool.and_eq_true, Bool.not_eq_true'] at hws
          split at h2
          · rename_i t2 hm
            split at h2
            · rename_i th hm2
              cases he : Nat.beq th.length q.n && mte s th q.env with
              | false => rw [he] at h2; cases h2
              | true =>
                rw [he] at h2
                simp only [cond_true] at h2
                rw [Bool.and_eq_true] at he
                obtain ⟨d2, e2, r2⟩ := mtl_ok ho hm (fun b hb => by cases hb) ha
                obtain ⟨d3, e3, r3⟩ := mtm_ok ho hm2 d2
                have hok : Ok J ⟨q.n, q.env, q.me, []⟩ (vals ρ th) σ := ⟨by simp [vals, Nat.eq_of_beq_eq_true he.1], mte_ok ho he.2 d3, r3, fun e he => (by cases he), ho.inv⟩
                refine Cz.mono (H.ct z q hz hq (vals ρ th) σ av hok (r2.mono e3.pre)) ?_
                rintro rv σ' ⟨⟨j1, j2⟩, j3⟩
                have hb1 := behind_ok ho j1 j2
                have hfr := hf.tr (wsub_ok hws.1 hws.2 j2)
                unfold retOk at j3
                split at h2
                · rename_i hk
                  rw [hk] at j3
                  cases j3
                  exact goW_ok H hw h2 hb hp hb1 hfr hl hs hr
                · rename_i hk
                  rw [hk] at j3
                  obtain ⟨y, rfl, hy⟩ := j3
                  obtain ⟨ρ', p1, p2, p3, p4⟩ := newI_ok hb1 hy
                  exact goW_ok H hw h2 hb (hp.tr p1) p2 hfr (hl.mono p1) ⟨Rv.of_int p3 p4, hs.mono p1⟩ (hr.mono p1)
                · rename_i hk
                  rw [hk] at j3
                  obtain ⟨y, rfl, hy⟩ := j3
                  obtain ⟨ρ', p1, p2, p3, p4⟩ := newL_ok hb1 hy
                  exact goW_ok H hw h2 hb (hp.tr p1) p2 hfr (hl.mono p1) ⟨Rv.of_long p3 p4, hs.mono p1⟩ (hr.mono p1)
                · cases h2
            · cases h2
          · cases h2
      · cases h
theorem retFits_ok {s : Sy} {ρ : List Int} {σ : zS} {t : Nat} {a : AV} {v : Value} {o : Option FieldType} (ho : Ok J s ρ σ) (h : retFits s t a = true) (ha : Rv ρ a v) (h1 : t = 1 → o = some .int) (h2 : t = 2 → o = some .boolean) (h4 : t = 4 → o = some .char) : ∃ (y : Int32) (ty : FieldType), v = .int y ∧ o = some ty ∧ narrow ty (.int y) = .int y := by
  unfold retFits at h
  split at h
  · obtain ⟨y, rfl, hy⟩ := ha.int h
    exact ⟨y, _, rfl, h1 rfl, rfl⟩
  · rw [Bool.and_eq_true] at h
    obtain ⟨y, rfl, hy⟩ := ha.int h.1
    refine ⟨y, _, rfl, h2 rfl, ?_⟩
    rcases is01 (dsub_in h.2 (dom_i ho h.1 hy)) with rfl | rfl <;> rfl
  · rw [Bool.and_eq_true] at h
    obtain ⟨y, rfl, hy⟩ := ha.int h.1
    refine ⟨y, _, rfl, h4 rfl, ?_⟩
    have := inD_one (dsub_in h.2 (dom_i ho h.1 hy))
    exact congrArg Value.int ((i2c_ok y).2 this.1 this.2)
  · cases h
theorem walkB_ok (hG : GxOk Y G) (hJ : JOk G.g J) (H : Hy E Y G J r c mu0 fin ρ0 σ0 K M0) {w : Wk} (hw : WS E Y G J r c ρ0 σ0 K w) : WS E Y G J r c ρ0 σ0 K (walkB G r c mu0 fin w) := by
  intro s f fs ρ σ l v cs h hb hp ho hf hl hs hr
  unfold walkB at h
  cases hc : (G.g.code f.m).get f.pc with
  | none => rw [hc] at h; cases h
  | some q =>
    obtain ⟨ix, len⟩ := q
    rw [hc] at h
    dsimp only at h
    obtain ⟨d, hfit, hlen⟩ := hG.g.code _ _ _ _ hc
    have gen : ∀ ix' : Ix, decode (Y f.m).2.1 f.pc = .ok (enc ix', len) → ix'.fits (Y f.m).2.2.1 = true → (ix'.len = 0 ∨ ix'.len = len) → St1 E Y G.g c.W J f.m f.pc len (Kf E Y fs cs K) ix' → (match step1 G.g c.W f.m ix' f.pc (f.pc + len) s f.lv f.st with
      | some L => L.all fun u => goW c mu0 w u.1 f.m u.2.1 u.2.2.1 u.2.2.2 fs
      | none => false) = true → Wz E (Y f.m) f.pc l v σ (Kf E Y fs cs K) := by
      intro ix' d1 d2 d3 hst hh
      split at hh
      · rename_i L hL
        refine hst s ρ σ f.lv f.st l v L hG.g hJ d1 d2 d3 ho hl hs hL ?_
        intro u hu ρ' σ' l' v' p1 p2 p3 p4 p5
        exact goW_ok H hw (List.all_eq_true.mp hh u hu) hb (hp.tr p1) p2 (hf.tr p3) p4 p5 (hr.mono p1)
      · cases hh
    cases ix with
    | ir =>
      dsimp only at h
      split at h
      · rename_i a q1 q2 q3 t q4 hst hrm
        rw [Bool.and_eq_true] at h
        rw [hst] at hs
        obtain ⟨w1, v1, rfl, ha, hs1⟩ := hs.cons
        cases hs1.nil
        obtain ⟨-, -, m0, m1, m2, m3, m4⟩ := hG.room _ _ _ _ _ _ hrm
        obtain ⟨y, ty, rfl, e1, e2⟩ := retFits_ok ho h.1 ha m1 m2 m4
        cases lenOf (a := 1) hlen (by decide)
        exact z_iret e1 e2 d (retW_ok H hw h.2 hb hp ho hf ha hr)
      · cases h
    | lr =>
      dsimp only at h
      split at h
      · rename_i a q1 q2 q3 t q4 hst hrm
        simp only [Bool.and_eq_true] at h
        rw [hst] at hs
        obtain ⟨w1, v1, rfl, ha, hs1⟩ := hs.cons
        cases hs1.nil
        obtain ⟨-, -, m0, m1, m2, m3, m4⟩ := hG.room _ _ _ _ _ _ hrm
        obtain ⟨y, rfl, hy⟩ := ha.long h.1.2
        cases lenOf (a := 1) hlen (by decide)
        exact z_lret (m3 (Nat.eq_of_beq_eq_true h.1.1)) d (retW_ok H hw h.2 hb hp ho hf ha hr)
      · cases h
    | vr =>
      dsimp only at h
      split at h
      · rename_i q1 q2 q3 t q4 hst hrm
        rw [Bool.and_eq_true] at h
        rw [hst] at hs
        cases hs.nil
        obtain ⟨-, -, m0, m1, m2, m3, m4⟩ := hG.room _ _ _ _ _ _ hrm
        cases lenOf (a := 1) hlen (by decide)
        exact z_vret (m0 (Nat.eq_of_beq_eq_true h.1)) d (retW_ok H hw h.2 hb hp ho hf (a := none) (rv := none) trivial hr)
      · cases h
    | iz x =>
      dsimp only at h
      split at h
      · rename_i z k hcl
        obtain ⟨g1, g2, -⟩ := hG.call _ _ _ _ _ (Nat.le_of_ble_eq_true hfit) hcl
        split at h
        · rename_i args rest hpo
          obtain ⟨as, vr, rfl, e2, e3, e4⟩ := pops_ok (as0 := []) hpo hs trivial
          rw [List.append_nil] at e2
          obtain ⟨⟨c1, c2, c3, c4⟩, c5⟩ := callW_ok hG H hw h hb hp ho hf hl e2 e3 hr
          cases lenOf (a := 3) hlen (by decide)
          exact z_invS g1 (g2 rfl) c1 ⟨d, rfl⟩ e4 rfl c2 c3 c4 c5
        · cases h
      · exact gen _ d hfit hlen s_iz h
    | iv x =>
      dsimp only at h
      split at h
      · rename_i z k hcl
        obtain ⟨g1, -, g3⟩ := hG.call _ _ _ _ _ (Nat.le_of_ble_eq_true hfit) hcl
        obtain ⟨⟨g4, g5⟩, g6⟩ := g3 rfl
        split at h
        · rename_i kb args rest hpo
          split at h
          · rename_i q1 q2 q3 q4 q5 hrm
            rw [Bool.and_eq_true] at h
            have hkb := Nat.eq_of_beq_eq_true h.1
            subst hkb
            obtain ⟨g7, ci, ll, g8, g9, g10⟩ := g6 _ _ _ _ _ hrm
            obtain ⟨as, vr, rfl, e2, e3, e4⟩ := pops_ok (as0 := []) hpo hs trivial
            rw [List.append_nil] at e2
            obtain ⟨⟨c1, c2, c3, c4⟩, c5⟩ := callW_ok hG H hw h.2 hb hp ho hf hl e2 e3 hr
            cases as with
            | nil => exact e2.elim
            | cons a0 as =>
              have ha0 : a0 = .ref q5 := e2.1
              subst ha0
              cases lenOf (a := 3) hlen (by decide)
              refine z_invV g1 g4 g5 g7 g8 g9 g10 c1 ⟨d, rfl⟩ (As := as) (rest := vr) (by simpa using e4) (by simp) c2 c3 c4 c5
          · cases h
        · cases h
      · cases h
    | ic n => exact gen _ d hfit hlen s_ic h
    | bp n => exact gen _ d hfit hlen s_bp h
    | sp n => exact gen _ d hfit hlen s_sp h
    | ldc n => exact gen _ d hfit hlen s_ldc h
    | ldcw n => exact gen _ d hfit hlen s_ldcw h
    | lc n => exact gen _ d hfit hlen s_lc h
    | ldc2 n => exact gen _ d hfit hlen s_ldc2 h
    | iln n => exact gen _ d hfit hlen s_iln h
    | il n => exact gen _ d hfit hlen s_il h
    | lln n => exact gen _ d hfit hlen s_lln h
    | ll n => exact gen _ d hfit hlen s_ll h
    | aln n => exact gen _ d hfit hlen s_aln h
    | al n => exact gen _ d hfit hlen s_al h
    | isn n => exact gen _ d hfit hlen s_isn h
    | is n => exact gen _ d hfit hlen s_is h
    | lsn n => exact gen _ d hfit hlen s_lsn h
    | ls n => exact gen _ d hfit hlen s_ls h
    | asn n => exact gen _ d hfit hlen s_asn h
    | as n => exact gen _ d hfit hlen s_as h
    | inc i z => exact gen _ d hfit hlen s_inc h
    | bi o => exact gen _ d hfit hlen s_bi h
    | bl o => exact gen _ d hfit hlen s_bl h
    | sl o => exact gen _ d hfit hlen s_sl h
    | ineg => exact gen _ d hfit hlen s_ineg h
    | lneg => exact gen _ d hfit hlen s_lneg h
    | i2l => exact gen _ d hfit hlen s_i2l h
    | l2i => exact gen _ d hfit hlen s_l2i h
    | i2c => exact gen _ d hfit hlen s_i2c h
    | lcmp => exact gen _ d hfit hlen s_lcmp h
    | dup => exact gen _ d hfit hlen s_dup h
    | dup2 => exact gen _ d hfit hlen s_dup2 h
    | pop => exact gen _ d hfit hlen s_pop h
    | ifz c o => exact gen _ d hfit hlen s_ifz h
    | icm c o => exact gen _ d hfit hlen s_icm h
    | go o => exact gen _ d hfit hlen s_go h
    | tsw a b c o => exact gen _ d hfit hlen s_tsw h
    | lsw a b => exact gen _ d hfit hlen s_lsw h
    | gf x => exact gen _ d hfit hlen s_gf h
    | pf x => exact gen _ d hfit hlen s_pf h
    | iald => exact gen _ d hfit hlen s_iald h
    | zald => exact gen _ d hfit hlen s_zald h
    | lald => exact gen _ d hfit hlen s_lald h
    | aald => exact gen _ d hfit hlen s_aald h
    | iast => exact gen _ d hfit hlen s_iast h
    | zast => exact gen _ d hfit hlen s_zast h
    | last => exact gen _ d hfit hlen s_last h
theorem enum_in {x : Int} : ∀ {d : Dom}, inD x d → x ∈ enum d := by
  intro d ⟨p, hp, h1, h2⟩
  refine List.mem_flatMap.mpr ⟨p, hp, List.mem_map.mpr ⟨(x - p.1).toNat, List.mem_range.mpr (by omega), by omega⟩⟩
theorem walkS_ok (hG : GxOk Y G) (hJ : JOk G.g J) (H : Hy E Y G J r c mu0 fin ρ0 σ0 K M0) {w : Wk} (hw : WS E Y G J r c ρ0 σ0 K w) : WS E Y G J r c ρ0 σ0 K (walkS G r c mu0 fin w) := by
  intro s f fs ρ σ l v cs h hb hp ho hf hl hs hr
  unfold walkS at h
  split at h
  · rename_i u a st' hsp hst
    cases hc : a.isI && many (dom s a) with
    | false => rw [hc] at h; exact walkB_ok hG hJ H hw s f fs ρ σ l v cs h hb hp ho hf hl hs hr
    | true =>
      rw [hc] at h
      rw [Bool.and_eq_true] at hc
      simp only [cond_true] at h
      have hs' := hs
      rw [hst] at hs'
      obtain ⟨w1, v1, rfl, ha, hs1⟩ := hs'.cons
      obtain ⟨y, rfl, hy⟩ := ha.int hc.1
      have hd := dom_i ho hc.1 hy
      have h1 := List.all_eq_true.mp h y.toInt (enum_in hd)
      obtain ⟨s', c1, c2⟩ := Sy.cut_ok (c := .eq) ho hy (b := .c y.toInt) rfl hd eqc rfl
      rw [c1] at h1
      exact hw s' f fs ρ σ l _ cs h1 hb hp c2 hf hl hs hr
  · exact walkB_ok hG hJ H hw s f fs ρ σ l v cs h hb hp ho hf hl hs hr
theorem walk_ok (hG : GxOk Y G) (hJ : JOk G.g J) (H : Hy E Y G J r c mu0 fin ρ0 σ0 K M0) : ∀ n : Nat, WS E Y G J r c ρ0 σ0 K (walk G r c mu0 fin n)
  | 0 => by
    intro s f fs ρ σ l v cs h
    cases h
  | n + 1 => walkS_ok hG hJ H (walk_ok hG hJ H n)
end E10
